/** Edges that the document names of the design, its cords, pulls and floats: a test for each sentence. */
public final class DesignEdgesTest extends Bench {
    private static final int ALL_TWENTY = (1 << 20) - 1;

    private DesignEdgesTest() { }

    public static void main(String[] args) {
        firstValues();
        leastAndGreatestPaper();
        paperIsAllNought();
        squareTellsWhatItWas();
        fillGoesRound();
        fillOfNoneAndOfAll();
        spanDivides();
        spanOfEachPick();
        mirrorPlaces();
        mirrorOfEachPick();
        fewestAndMostCords();
        cordsByFirstColumns();
        pullBits();
        fewestAndMostPulls();
        limits();
        tooLongIsMoreThanLimit();
        floatsGoRound();
        floatsOfOneColour();
        mendingFewest();
        mendingLeastBits();
        mendingRound();
        mendingOfOneColour();
        mendedIsWithNoOther();
        mendingOneBehindAnother();
        due.finish();
    }

    private static String times(String text, int n) {
        return text.repeat(n);
    }

    /** The rows of a text, turned: a test of squares told again of rows. */
    private static DrawLooms standing(String row) {
        return drawn(row.split(""));
    }

    private static void firstValues() {
        due.about("promise 1: WIDE and HIGH 8 at first, COLOUR 0 at first");
        DrawLooms x = new DrawLooms();
        isDrawn(x, times("00000000 ", 8).split(" "));
        due.is("no ninth column", x.at(8, 0), -1);
        due.is("no ninth PICK", x.at(0, 8), -1);
        due.about("promise 1: LIMIT 6 at first");
        x = new DrawLooms();
        x.paper(6, 1);
        due.is("six are not TOO LONG", x.floats(0, 0), 0);
        due.is("six are not mended", x.mend(0), 0);
        x.paper(7, 1);
        due.is("seven are TOO LONG", x.floats(0, 0), 1);
        due.is("seven are mended", x.mend(0), 1);
        due.is("LIMIT", x.limit(6), 6);
    }

    private static void leastAndGreatestPaper() {
        due.about("promise 2: WIDE 1 .. 20, HIGH 1 .. 20");
        int[][] sizes = {{1, 1}, {1, 20}, {20, 1}, {20, 20}};
        for (int[] size : sizes) {
            DrawLooms x = new DrawLooms();
            due.is("paper", x.paper(size[0], size[1]), 1);
            due.is("WIDE", x.count(0), size[0]);
            due.is("HIGH", x.count(1), size[1]);
            due.is("last square", x.square(size[0] - 1, size[1] - 1, 3), 0);
            due.is("last square", x.at(size[0] - 1, size[1] - 1), 3);
            due.is("column behind it", x.at(size[0], size[1] - 1), -1);
            due.is("PICK behind it", x.at(size[0] - 1, size[1]), -1);
            refusals(x, 2, 0, 0, 0, 0, 0);
        }
    }

    private static void paperIsAllNought() {
        due.about("promise 2: all 0");
        DrawLooms x = new DrawLooms();
        x.paper(20, 20);
        for (int y = 0; y < 20; y++) {
            x.fill(0, y, 20, 3);
        }
        x.paper(1, 1);
        due.is("the one square", x.at(0, 0), 0);
        x.paper(20, 20);
        for (int y = 0; y < 20; y++) {
            for (int c = 0; c < 20; c++) {
                due.is("at(" + c + ", " + y + ")", x.at(c, y), 0);
            }
        }
        x = drawn("12", "31");
        due.is("of the same size", x.paper(2, 2), 1);
        isDrawn(x, "00", "00");
    }

    private static void squareTellsWhatItWas() {
        due.about("promise 3: a square becomes a COLOUR 0 .. 3: what it was");
        DrawLooms x = new DrawLooms();
        x.paper(20, 20);
        int[][] corners = {{0, 0}, {19, 0}, {0, 19}, {19, 19}};
        for (int[] c : corners) {
            int was = 0;
            for (int colour : new int[] {3, 3, 0, 2, 1, 0, 1}) {
                due.is("square", x.square(c[0], c[1], colour), was);
                due.is("at", x.at(c[0], c[1]), colour);
                was = colour;
            }
        }
        due.is("beside a corner", x.at(1, 0), 0);
        due.is("above a corner", x.at(19, 18), 0);
        refusals(x, 0, 0, 0, 0, 0, 0);
    }

    private static void fillGoesRound() {
        due.about("promise 4: from x on (round)");
        DrawLooms x = drawn("0000", "0000", "0000");
        due.is("the last one alone", x.fill(3, 1, 1, 2), 1);
        isDrawn(x, "0000", "0002", "0000");
        due.is("the last one and the first one", x.fill(3, 0, 2, 1), 2);
        isDrawn(x, "1001", "0002", "0000");
        due.is("up to the last one, not round", x.fill(2, 2, 2, 3), 2);
        isDrawn(x, "1001", "0002", "0033");
        due.is("all but one, round", x.fill(2, 1, 3, 1), 3);
        isDrawn(x, "1001", "1011", "0033");
    }

    private static void fillOfNoneAndOfAll() {
        due.about("promise 4: n 0 .. WIDE");
        DrawLooms x = drawn("123", "321");
        for (int c = 0; c < 3; c++) {
            due.is("none", x.fill(c, 0, 0, 0), 0);
        }
        isDrawn(x, "123", "321");
        due.is("all", x.fill(2, 0, 3, 0), 3);
        isDrawn(x, "000", "321");
        x.paper(1, 1);
        due.is("all of one", x.fill(0, 0, 1, 3), 1);
        isDrawn(x, "3");
        x.paper(20, 1);
        due.is("all of twenty", x.fill(19, 0, 20, 2), 20);
        isDrawn(x, times("2", 20));
        refusals(x, 0, 0, 0, 0, 0, 0);
    }

    private static void spanDivides() {
        due.about("promise 6: the least number that divides WIDE (or HIGH)");
        String[] parts = {"0", "01", "0001", "00001", "0000000001", "00000000000000000001"};
        for (String part : parts) {
            String row = times(part, 20 / part.length());
            due.is("span(0) of " + row, drawn(row).span(0), part.length());
            due.is("span(1) of one row", drawn(row).span(1), 1);
            due.is("span(1) of " + row, standing(row).span(1), part.length());
            due.is("span(0) of one column", standing(row).span(0), 1);
        }
        spans(drawn("01010"), 5, 1);
        spans(standing("01010"), 1, 5);
        spans(drawn("0010010"), 7, 1);
        spans(standing("0010010"), 1, 7);
        spans(drawn(times("01", 9) + "0"), 19, 1);
        spans(drawn(times("3", 19)), 1, 1);
        due.is("all but the last one", drawn("010100").span(0), 6);
        due.is("all but the first one", drawn("110101").span(0), 6);
    }

    private static void spanOfEachPick() {
        due.about("promise 6: each PICK is as it was");
        spans(drawn("010101", "011011"), 6, 2);
        spans(drawn("010101", "000000"), 2, 2);
        spans(drawn("000000", "000000", "000001"), 6, 3);
        spans(drawn("10", "01", "10", "01"), 2, 2);
        spans(drawn("10", "01", "10", "00"), 2, 4);
    }

    private static void mirrorPlaces() {
        due.about("promise 7: a place m (0 .. WIDE less 1), the least, round");
        String[] rows = {"0", "01", "012", "12210", "01210", "21221", "0121", "1012", "3210123", "00000"};
        int[] least = {0, 0, -9, 4, 2, 0, 0, 1, 3, 0};
        for (int i = 0; i < rows.length; i++) {
            due.is("mirror(0) of " + rows[i], drawn(rows[i]).mirror(0), least[i]);
            due.is("mirror(1) of one row", drawn(rows[i]).mirror(1), 0);
            due.is("mirror(1) of " + rows[i], standing(rows[i]).mirror(1), least[i]);
            due.is("mirror(0) of one column", standing(rows[i]).mirror(0), 0);
        }
        String nine = "0000000" + "32123" + "00000000";
        due.is("the greatest of twenty", drawn(nine).mirror(0), 9);
        due.is("the greatest of twenty", standing(nine).mirror(1), 9);
        String eighteen = "123000000" + "000000321" + "0";
        due.is("the last of nineteen", drawn(eighteen).mirror(0), 18);
        due.is("the last of nineteen", standing(eighteen).mirror(1), 18);
        due.about("promise 7: -9 none");
        DrawLooms x = drawn("0110", "0110", "0000");
        due.is("between two squares is no place", x.mirror(0), -9);
        due.is("between two rows, and on a row", x.mirror(1), 2);
        due.is("between two rows is no place", standing("0110").mirror(1), -9);
        due.is("all k but the last one", drawn("11100010").mirror(0), -9);
        refusals(x, 0, 0, 0, 0, 0, 0);
    }

    private static void mirrorOfEachPick() {
        due.about("promise 7: for each PICK");
        mirrors(drawn("01000", "00010"), -9, 0);
        mirrors(drawn("010", "001"), -9, 0);
        mirrors(drawn("010", "101"), 1, 0);
        mirrors(drawn("01", "02", "03"), 0, -9);
        mirrors(drawn("0100", "0101"), 1, 0);
    }

    private static void fewestAndMostCords() {
        due.about("promise 8: columns of one COLOUR in each PICK hang on one CORD");
        due.is("one column", drawn("3").cords(), 1);
        due.is("twenty alike", drawn(times("2", 20), times("1", 20)).cords(), 1);
        due.is("two of one square", drawn("10").cords(), 2);
        due.is("four COLOURS", drawn("01230123").cords(), 4);
        DrawLooms x = new DrawLooms();
        x.paper(20, 20);
        due.is("twenty by twenty", x.cords(), 1);
        x.square(7, 19, 1);
        due.is("another one in the last PICK", x.cords(), 2);
        due.is("it", x.cord(7), 1);
        due.is("behind it", x.cord(8), 0);
        x.square(9, 0, 1);
        due.is("another one in the first PICK", x.cords(), 3);
        x.square(9, 0, 0);
        x.square(9, 19, 1);
        due.is("as the other one now", x.cords(), 2);
        due.is("as the other one now", x.cord(9), 1);
    }

    private static void cordsByFirstColumns() {
        due.about("promise 9: CORDS are numbered by their first columns");
        isCords(drawn("3210"), 0, 1, 2, 3);
        isCords(drawn("3131"), 0, 1, 0, 1);
        isCords(drawn("0010", "1000"), 0, 1, 2, 1);
        DrawLooms x = new DrawLooms();
        x.paper(20, 3);
        for (int c = 0; c < 20; c++) {
            x.square(c, 0, c % 4);
            x.square(c, 1, c / 4 % 4);
            x.square(c, 2, c / 16);
        }
        due.is("cords", x.cords(), 20);
        for (int c = 0; c < 20; c++) {
            due.is("cord(" + c + ")", x.cord(c), c);
        }
    }

    private static void isCords(DrawLooms x, int... cords) {
        for (int c = 0; c < cords.length; c++) {
            due.is("cord(" + c + ")", x.cord(c), cords[c]);
        }
    }

    private static void pullBits() {
        due.about("promise 10: the CORDS (bits) whose columns have that COLOUR there (0: none)");
        DrawLooms x = new DrawLooms();
        x.paper(20, 20);
        for (int c = 0; c < 19; c++) {
            x.square(c, c, 1);
        }
        due.is("cords", x.cords(), 20);
        due.is("all but the first one", x.pull(0, 0), ALL_TWENTY - 1);
        due.is("the first one", x.pull(0, 1), 1);
        due.is("the last but one", x.pull(18, 1), 1 << 18);
        due.is("all", x.pull(19, 0), ALL_TWENTY);
        due.is("none", x.pull(19, 1), 0);
        due.is("none", x.pull(19, 3), 0);
        x.square(19, 19, 3);
        due.is("the last one", x.pull(19, 3), 1 << 19);
        refusals(x, 0, 0, 0, 0, 0, 0);
        x = drawn("3");
        due.is("one column", x.pull(0, 3), 1);
        due.is("one column, not there", x.pull(0, 0), 0);
        x = drawn("2112");
        due.is("bits of CORDS, not of columns", x.pull(0, 2), 1);
        due.is("bits of CORDS, not of columns", x.pull(0, 1), 2);
    }

    private static void fewestAndMostPulls() {
        due.about("promises 11, 12: PULLS PICK by PICK, of each its COLOURS that are there, by numbers");
        DrawLooms x = drawn("3");
        due.is("the fewest", x.pulls(), 1);
        due.is("its PICK", x.pullOf(0, 0), 0);
        due.is("its COLOUR", x.pullOf(0, 1), 3);
        due.is("none behind it", x.pullOf(1, 0), -1);
        x = new DrawLooms();
        x.paper(20, 20);
        for (int y = 0; y < 20; y++) {
            x.square(19, y, 1);
            x.square(0, y, 3);
            x.square(7, y, 2);
        }
        due.is("the most", x.pulls(), 80);
        for (int i = 0; i < 80; i++) {
            due.is("PICK of " + i, x.pullOf(i, 0), i / 4);
            due.is("COLOUR of " + i, x.pullOf(i, 1), i % 4);
        }
        due.is("none behind them", x.pullOf(80, 0), -1);
        x = drawn("0", "3", "0");
        due.is("a PULL of each PICK", x.pulls(), 3);
        due.is("COLOUR of the second", x.pullOf(1, 1), 3);
        due.is("PICK of the third", x.pullOf(2, 0), 2);
    }

    private static void limits() {
        due.about("promise 13: LIMIT 1 .. 20: what it was");
        DrawLooms x = new DrawLooms();
        int was = 6;
        for (int n : new int[] {1, 20, 20, 2, 19, 1}) {
            due.is("limit(" + n + ")", x.limit(n), was);
            was = n;
        }
        due.is("below", x.limit(0), -4);
        due.is("above", x.limit(21), -6);
        due.is("as it was", x.limit(5), 1);
        x.paper(3, 3);
        due.is("paper leaves it", x.limit(6), 5);
    }

    private static void tooLongIsMoreThanLimit() {
        due.about("promise 14: TOO LONG: more than LIMIT");
        DrawLooms x = drawn("11111222333344444444".replace('4', '0'));
        int[] tooLong = {4, 4, 3, 2, 1, 1, 1, 0, 0};
        for (int n = 1; n <= tooLong.length; n++) {
            x.limit(n);
            due.is("LIMIT " + n, x.floats(0, 0), tooLong[n - 1]);
            due.is("the longest one", x.floats(0, 1), 8);
        }
        x = drawn(times("0011", 5), times("01", 10));
        x.limit(2);
        due.is("none of two", x.floats(0, 0), 0);
        x.limit(1);
        due.is("all of two", x.floats(0, 0), 10);
        due.is("none of one", x.floats(1, 0), 0);
        due.is("the longest of two", x.floats(0, 1), 2);
        due.is("the longest of one", x.floats(1, 1), 1);
    }

    private static void floatsGoRound() {
        due.about("promise 14: runs of one COLOUR in a PICK, round, greatest ones");
        DrawLooms x = drawn("10000001", "11000111", "00000001", "10000000", "10111111");
        x.limit(1);
        int[][] due0 = {{2, 6}, {2, 5}, {1, 7}, {1, 7}, {1, 7}};
        for (int y = 0; y < due0.length; y++) {
            due.is("floats(" + y + ", 0)", x.floats(y, 0), due0[y][0]);
            due.is("floats(" + y + ", 1)", x.floats(y, 1), due0[y][1]);
        }
        x.limit(4);
        due.is("five round", x.floats(1, 0), 1);
        x.limit(5);
        due.is("five round", x.floats(1, 0), 0);
        due.about("promise 14: runs of a PICK, not of columns");
        x = drawn("01", "01", "01");
        x.limit(1);
        due.is("floats(1, 1)", x.floats(1, 1), 1);
        due.is("floats(1, 0)", x.floats(1, 0), 0);
    }

    private static void floatsOfOneColour() {
        due.about("promise 14: if all are of one: one run of WIDE");
        DrawLooms x = new DrawLooms();
        x.limit(1);
        for (int wide : new int[] {1, 2, 3, 19, 20}) {
            x.paper(wide, 2);
            x.fill(0, 1, wide, 3);
            for (int y = 0; y < 2; y++) {
                due.is("the longest of " + wide, x.floats(y, 1), wide);
                due.is("TOO LONG of " + wide, x.floats(y, 0), wide > 1 ? 1 : 0);
            }
        }
        x.limit(19);
        due.is("twenty", x.floats(0, 0), 1);
        x.limit(20);
        due.is("twenty", x.floats(0, 0), 0);
    }

    private static void isMended(String row, int limit, int... columns) {
        int bits = 0;
        for (int column : columns) {
            bits |= 1 << column;
        }
        DrawLooms x = drawn(row);
        x.limit(limit);
        due.is("mend of " + row + " with LIMIT " + limit, x.mend(0), bits);
        isDrawn(x, row);
    }

    private static void mendingFewest() {
        due.about("promise 15: the fewest squares so that none is TOO LONG");
        isMended("0111333311122", 4);
        isMended("01111122", 5);
        isMended("01111122", 4, 1);
        isMended("0111111122", 3, 4);
        isMended("01111111122", 3, 1, 5);
        isMended("011122", 1, 2, 4);
        isMended("0111122", 1, 1, 3, 5);
        isMended("0" + times("1", 19), 1, 2, 4, 6, 8, 10, 12, 14, 16, 18);
        isMended("0" + times("1", 19), 18, 1);
        isMended("0" + times("1", 19), 9, 10);
        isMended("0" + times("1", 19), 8, 2, 11);
        isMended("0" + times("1", 19), 19);
        isMended("0" + times("1", 19), 20);
        isMended("00111222", 2, 2, 5);
    }

    private static void mendingLeastBits() {
        due.about("promise 15: of these sets of columns the one that is the least as bits");
        isMended("01111112", 5, 1);
        isMended("01111112", 4, 2);
        isMended("01111112", 3, 3);
        isMended("01111112", 2, 1, 4);
        isMended("0111111112", 2, 3, 6);
        isMended("011111112", 2, 2, 5);
        isMended("00000111111111122222", 4, 0, 5, 10, 15);
    }

    private static void mendingRound() {
        due.about("promise 15: runs round");
        isMended("00111100", 3, 0, 2);
        isMended("01111110", 5, 1);
        isMended("00122000", 2, 7);
        isMended("00021000", 2, 0, 5);
        isMended("00012000", 4, 0);
        isMended("00012000", 3, 0);
        isMended("1222322311", 2, 0, 1);
        isMended("00000000010000000000", 9, 19);
        isMended("00000000010000000000", 18, 0);
        isMended("00000000010000000000", 19);
    }

    private static void mendingOfOneColour() {
        due.about("promise 15: one run of WIDE, round");
        isMended("0", 1);
        isMended("0", 20);
        isMended("000", 4);
        isMended(times("2", 19), 20);
        isMended("33", 1, 0);
        isMended("33", 2);
        isMended("00000000", 8);
        isMended("00000000", 7, 0);
        isMended("00000000", 4, 0, 3);
        isMended("00000000", 3, 0, 4);
        isMended("000000000", 3, 0, 1, 5);
        isMended(times("1", 20), 20);
        isMended(times("1", 20), 19, 0);
        isMended(times("1", 20), 10, 0, 9);
        isMended(times("1", 20), 9, 0, 10);
        isMended(times("1", 20), 1, 0, 2, 4, 6, 8, 10, 12, 14, 16, 18);
        isMended(times("1", 19), 1, 0, 1, 3, 5, 7, 9, 11, 13, 15, 17);
    }

    private static void mendedIsWithNoOther() {
        due.about("promise 15: a square that is mended is with no other one");
        isMended("0001111", 3, 3);
        isMended("2221113330", 2, 0, 3, 6);
        due.about("promise 15: two mended ones side by side are no run, either");
        isMended("000", 1, 0, 1);
        isMended("00000", 1, 0, 1, 3);
        isMended("3000001", 1, 2, 4);
        isMended("0011", 1, 0, 2);
        isMended("110022", 1, 0, 2, 4);
        isMended("211002", 1, 0, 1, 3);
    }

    private static void mendingOneBehindAnother() {
        due.about("promise 15: MENDING a PICK knows nothing of another PICK");
        DrawLooms x = drawn("01111111", "01230123", "00001111", "22222222", "00110011");
        x.limit(3);
        int[] bits = {1 << 4, 0, 1 | 1 << 4, 1 | 1 << 4, 0};
        for (int y = 0; y < bits.length; y++) {
            for (int other = 0; other < bits.length; other++) {
                due.is("mend(" + other + ")", x.mend(other), bits[other]);
                due.is("mend(" + y + ") behind it", x.mend(y), bits[y]);
            }
        }
        due.about("promise 15: as many runs as there can be");
        isMended(times("01", 10), 1);
        isMended(times("01", 9) + "0", 1, 0);
    }
}
