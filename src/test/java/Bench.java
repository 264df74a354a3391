/** What the tests share: designs written as texts, and the answers of several calls that belong together. */
class Bench {
    static final int LOW = Integer.MIN_VALUE;
    static final int HIGH = Integer.MAX_VALUE;
    static final Due due = new Due();

    /** A design row by row, each row a text of colours. */
    static DrawLooms drawn(String... rows) {
        DrawLooms x = new DrawLooms();
        draw(x, rows);
        return x;
    }

    /** Squares of colour 0 are left as paper made them: an object has but 512 calls. */
    static void draw(DrawLooms x, String... rows) {
        due.is("paper", x.paper(rows[0].length(), rows.length), 1);
        for (int y = 0; y < rows.length; y++) {
            for (int c = 0; c < rows[y].length(); c++) {
                if (rows[y].charAt(c) != '0') {
                    due.is("square(" + c + ", " + y + ")", x.square(c, y, rows[y].charAt(c) - '0'), 0);
                }
            }
        }
    }

    static void isDrawn(DrawLooms x, String... rows) {
        due.is("count(0)", x.count(0), rows[0].length());
        due.is("count(1)", x.count(1), rows.length);
        for (int y = 0; y < rows.length; y++) {
            for (int c = 0; c < rows[y].length(); c++) {
                due.is("at(" + c + ", " + y + ")", x.at(c, y), rows[y].charAt(c) - '0');
            }
        }
    }

    static void isCloth(DrawLooms x, String... rows) {
        for (int y = 0; y < rows.length; y++) {
            for (int c = 0; c < rows[y].length(); c++) {
                due.is("cloth(" + c + ", " + y + ")", x.cloth(c, y), rows[y].charAt(c) - '0');
            }
        }
        due.is("cloth beside", x.cloth(rows[0].length(), 0), -1);
        due.is("cloth below", x.cloth(0, rows.length), -1);
    }

    static void isExplained(DrawLooms x, int kind, int a, int b) {
        due.is("explained(0)", x.explained(0), kind);
        due.is("explained(1)", x.explained(1), a);
        due.is("explained(2)", x.explained(2), b);
    }

    static void refusals(DrawLooms x, int... counts) {
        for (int i = 0; i < counts.length; i++) {
            due.is("count(" + (11 + i) + ")", x.count(11 + i), counts[i]);
        }
    }

    static void isBest(DrawLooms x, int late, int... row) {
        due.is("best", x.best(), late);
        for (int i = 0; i < row.length; i++) {
            due.is("bestAt(" + i + ")", x.bestAt(i), row[i]);
        }
        due.is("bestAt behind", x.bestAt(row.length), -9);
    }

    static void isAccount(DrawLooms x, int account, int... parts) {
        for (int what = 0; what < parts.length; what++) {
            due.is("account(" + account + ", " + what + ")", x.account(account, what), parts[what]);
        }
    }

    static void isBeam(DrawLooms x, int beam, int... parts) {
        for (int what = 0; what < parts.length; what++) {
            due.is("beamOf(" + beam + ", " + what + ")", x.beamOf(beam, what), parts[what]);
        }
    }

    static void spans(DrawLooms x, int squares, int rows) {
        due.is("span(0)", x.span(0), squares);
        due.is("span(1)", x.span(1), rows);
    }

    static void mirrors(DrawLooms x, int squares, int rows) {
        due.is("mirror(0)", x.mirror(0), squares);
        due.is("mirror(1)", x.mirror(1), rows);
    }
}
