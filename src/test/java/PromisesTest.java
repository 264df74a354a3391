/** Each promise by itself: ordinary inputs, the edges that the document names, wrong inputs. */
public final class PromisesTest extends Bench {
    private PromisesTest() { }

    public static void main(String[] args) {
        design();
        cordsAndPulls();
        floats();
        cloth();
        orders();
        silkAndLaws();
        beams();
        counts();
        due.finish();
    }

    // ---- promises 1 to 7

    private static void design() {
        newObject();
        paper();
        square();
        fill();
        at();
        span();
        mirror();
    }

    private static void newObject() {
        due.about("promise 1");
        DrawLooms x = new DrawLooms();
        isDrawn(x, "00000000", "00000000", "00000000", "00000000",
            "00000000", "00000000", "00000000", "00000000");
        int[] counts = {8, 8, 0, 0, 0, 0, 0, -9, 0};
        for (int what = 0; what < counts.length; what++) {
            due.is("count(" + what + ")", x.count(what), counts[what]);
        }
        refusals(x, 0, 0, 0, 0, 0, 0);
        due.is("best", x.best(), 0);
        due.is("limit", x.limit(20), 6);
        due.is("set speed", x.set(0, 1), 2);
        due.is("set tie", x.set(1, 0), 3);
        for (int a = 0; a < 6; a++) {
            for (int what = 0; what < 4; what++) {
                due.is("account", x.account(a, what), 0);
            }
        }
        for (int b = 0; b < 4; b++) {
            due.is("beamOf 0", x.beamOf(b, 0), 0);
            due.is("beamOf 1", x.beamOf(b, 1), 0);
            due.is("beamOf 2", x.beamOf(b, 2), -9);
        }
        due.is("cloth", x.cloth(0, 0), -3);
        due.is("clear", x.clear(), 0);
        due.is("another object knows nothing of it", new DrawLooms().count(13), 0);
    }

    private static void paper() {
        due.about("promise 2");
        DrawLooms x = drawn("12", "30");
        due.is("paper", x.paper(3, 2), 1);
        isDrawn(x, "000", "000");
        due.is("greatest", x.paper(20, 20), 1);
        due.is("last square", x.square(19, 19, 3), 0);
        due.is("least", x.paper(1, 1), 1);
        due.is("all 0 again", x.paper(20, 20), 1);
        due.is("last square", x.at(19, 19), 0);
        draw(x, "12", "30");
        due.is("wide below", x.paper(0, 5), -4);
        due.is("high below", x.paper(5, 0), -4);
        due.is("below ahead of room", x.paper(21, 0), -4);
        due.is("below ahead of room", x.paper(LOW, HIGH), -4);
        due.is("wide above", x.paper(21, 5), -6);
        due.is("high above", x.paper(5, 21), -6);
        isDrawn(x, "12", "30");
        refusals(x, 0, 0, 0, 4, 0, 2);
    }

    private static void square() {
        due.about("promise 3");
        DrawLooms x = drawn("000", "000");
        due.is("square", x.square(2, 1, 3), 0);
        due.is("square", x.square(2, 1, 1), 3);
        due.is("square", x.square(2, 1, 1), 1);
        isDrawn(x, "000", "001");
        int[][] wrong = {{-1, 0, 1}, {3, 0, 1}, {0, -1, 1}, {0, 2, 1}, {0, 0, -1}, {0, 0, 4},
            {LOW, HIGH, 0}, {HIGH, 0, HIGH}};
        for (int[] w : wrong) {
            due.is("square", x.square(w[0], w[1], w[2]), -1);
        }
        isDrawn(x, "000", "001");
        refusals(x, wrong.length, 0, 0, 0, 0, 0);
    }

    private static void fill() {
        due.about("promise 4");
        DrawLooms x = drawn("00000", "00000");
        due.is("fill", x.fill(1, 0, 2, 3), 2);
        due.is("round", x.fill(3, 1, 4, 2), 4);
        isDrawn(x, "03300", "22022");
        due.is("whole row", x.fill(4, 0, 5, 1), 5);
        due.is("none", x.fill(0, 1, 0, 1), 0);
        isDrawn(x, "11111", "22022");
        due.is("x", x.fill(5, 0, -1, 1), -1);
        due.is("x", x.fill(-1, 0, 1, 1), -1);
        due.is("y", x.fill(0, 2, 1, 1), -1);
        due.is("colour ahead of n", x.fill(0, 0, 6, 4), -1);
        due.is("colour", x.fill(0, 0, 0, -1), -1);
        due.is("n below", x.fill(0, 0, -1, 3), -4);
        due.is("n below", x.fill(0, 0, LOW, 3), -4);
        due.is("n above", x.fill(0, 0, 6, 3), -6);
        due.is("n above", x.fill(0, 0, HIGH, 3), -6);
        isDrawn(x, "11111", "22022");
        refusals(x, 5, 0, 0, 2, 0, 2);
    }

    private static void at() {
        due.about("promise 5");
        DrawLooms x = drawn("0123", "3210", "1111");
        isDrawn(x, "0123", "3210", "1111");
        int[][] wrong = {{-1, 0}, {4, 0}, {0, -1}, {0, 3}, {LOW, LOW}, {HIGH, HIGH}};
        for (int[] w : wrong) {
            due.is("at", x.at(w[0], w[1]), -1);
        }
        refusals(x, wrong.length, 0, 0, 0, 0, 0);
    }

    private static void span() {
        due.about("promise 6");
        spans(drawn("0"), 1, 1);
        spans(drawn("0101", "2222"), 2, 2);
        spans(drawn("010010", "010010", "020020", "020020"), 3, 4);
        spans(drawn("012", "012", "012"), 3, 1);
        spans(drawn("01010"), 5, 1);
        spans(drawn("0011001"), 7, 1);
        spans(drawn("010101", "001001"), 6, 2);
        spans(drawn("0101", "0000", "0101", "0000"), 2, 2);
        DrawLooms x = drawn("0101");
        due.is("what", x.span(2), -2);
        due.is("what", x.span(-1), -2);
        refusals(x, 0, 2, 0, 0, 0, 0);
    }

    private static void mirror() {
        due.about("promise 7");
        mirrors(drawn("0"), 0, 0);
        mirrors(drawn("0012"), -9, 0);
        mirrors(drawn("00123"), -9, 0);
        mirrors(drawn("0121"), 0, 0);
        mirrors(drawn("1012"), 1, 0);
        mirrors(drawn("3210123"), 3, 0);
        mirrors(drawn("001100"), -9, 0);
        mirrors(drawn("00110"), 0, 0);
        mirrors(drawn("10", "20", "10", "30"), 0, 1);
        mirrors(drawn("10", "20", "30", "12"), 0, -9);
        mirrors(drawn("1", "1", "2", "3", "2"), 0, 3);
        mirrors(drawn("0121", "1012"), -9, 0);
        DrawLooms x = drawn("0012");
        due.is("none", x.mirror(0), -9);
        due.is("what", x.mirror(2), -2);
        due.is("what", x.mirror(-1), -2);
        refusals(x, 0, 2, 0, 0, 0, 0);
    }

    // ---- promises 8 to 12

    private static void cordsAndPulls() {
        due.about("promises 8, 9");
        DrawLooms x = drawn("1021021", "0030030");
        due.is("cords", x.cords(), 3);
        int[] cords = {0, 1, 2, 0, 1, 2, 0};
        for (int c = 0; c < cords.length; c++) {
            due.is("cord(" + c + ")", x.cord(c), cords[c]);
        }
        due.is("cord", x.cord(-1), -1);
        due.is("cord", x.cord(7), -1);
        refusals(x, 2, 0, 0, 0, 0, 0);
        x.square(6, 1, 1);
        due.is("cords", x.cords(), 4);
        due.is("cord(6)", x.cord(6), 3);
        DrawLooms wide = new DrawLooms();
        wide.paper(20, 20);
        for (int c = 0; c < 20; c++) {
            wide.square(c, c, 3);
        }
        due.is("cords", wide.cords(), 20);
        due.is("cord(19)", wide.cord(19), 19);

        due.about("promise 10");
        due.is("bit 19", wide.pull(19, 3), 1 << 19);
        due.is("all but bit 19", wide.pull(19, 0), (1 << 19) - 1);
        x = drawn("1021021", "0030030");
        int[][] pulls = {{2, 1, 4, 0}, {3, 0, 0, 4}};
        for (int y = 0; y < 2; y++) {
            for (int colour = 0; colour < 4; colour++) {
                due.is("pull(" + y + ", " + colour + ")", x.pull(y, colour), pulls[y][colour]);
            }
        }
        due.is("pick", x.pull(2, 0), -1);
        due.is("pick", x.pull(-1, 0), -1);
        due.is("colour", x.pull(0, 4), -1);
        due.is("colour", x.pull(0, -1), -1);
        refusals(x, 4, 0, 0, 0, 0, 0);

        due.about("promises 11, 12");
        due.is("pulls", x.pulls(), 5);
        int[][] told = {{0, 0}, {0, 1}, {0, 2}, {1, 0}, {1, 3}};
        for (int i = 0; i < told.length; i++) {
            due.is("pullOf(" + i + ", 0)", x.pullOf(i, 0), told[i][0]);
            due.is("pullOf(" + i + ", 1)", x.pullOf(i, 1), told[i][1]);
        }
        due.is("pull", x.pullOf(5, 0), -1);
        due.is("pull ahead of what", x.pullOf(5, 2), -1);
        due.is("pull", x.pullOf(-1, 0), -1);
        due.is("pull", x.pullOf(LOW, 0), -1);
        due.is("pull", x.pullOf(HIGH, 0), -1);
        due.is("what", x.pullOf(4, 2), -2);
        due.is("what", x.pullOf(0, -1), -2);
        refusals(x, 9, 2, 0, 0, 0, 0);
        due.is("pulls of one colour each", new DrawLooms().pulls(), 8);
        x = drawn("123", "111");
        due.is("colours that are not there", x.pulls(), 4);
        due.is("the first one", x.pullOf(0, 1), 1);
        due.is("the last one", x.pullOf(3, 1), 1);
        due.is("the last one", x.pullOf(3, 0), 1);
    }

    // ---- promises 13 to 15

    private static void floats() {
        due.about("promise 13");
        DrawLooms x = drawn("0000000");
        due.is("limit", x.limit(1), 6);
        due.is("limit", x.limit(20), 1);
        due.is("below", x.limit(0), -4);
        due.is("above", x.limit(21), -6);
        due.is("limit", x.limit(7), 20);
        refusals(x, 0, 0, 0, 1, 0, 1);

        due.about("promise 14");
        due.is("as long as the limit", x.floats(0, 0), 0);
        x.limit(6);
        due.is("closed", x.floats(0, 0), 1);
        due.is("closed", x.floats(0, 1), 7);
        x = drawn("0011100", "1111110", "0101010", "2220333");
        x.limit(3);
        long[][] picks = {{1, 4}, {1, 6}, {0, 2}, {0, 3}};
        for (int y = 0; y < picks.length; y++) {
            due.is("floats(" + y + ", 0)", x.floats(y, 0), picks[y][0]);
            due.is("floats(" + y + ", 1)", x.floats(y, 1), picks[y][1]);
        }
        x.limit(2);
        due.is("two", x.floats(3, 0), 2);
        x.limit(1);
        due.is("a round one of two", x.floats(2, 0), 1);
        due.is("pick", x.floats(4, 0), -1);
        due.is("pick ahead of what", x.floats(-1, 2), -1);
        due.is("what", x.floats(0, 2), -2);
        due.is("what", x.floats(0, -1), -2);
        refusals(x, 2, 2, 0, 0, 0, 0);

        mending();
    }

    private static void mending() {
        due.about("promise 15");
        DrawLooms x = drawn("0011100", "1111110", "0101010", "0000000");
        x.limit(3);
        due.is("round", x.mend(0), 1);
        due.is("least bits", x.mend(1), 4);
        due.is("nothing", x.mend(2), 0);
        due.is("closed", x.mend(3), 1 | 8);
        x.limit(1);
        due.is("round run of four, run of three", x.mend(0), (1 | 32) | 8);
        due.is("six", x.mend(1), 1 | 4 | 16);
        due.is("round run of two", x.mend(2), 1);
        due.is("closed seven", x.mend(3), 1 | 2 | 8 | 32);
        x.limit(7);
        due.is("nothing is mended", x.mend(3), 0);
        due.is("pick", x.mend(4), -1);
        due.is("pick", x.mend(-1), -1);
        refusals(x, 2, 0, 0, 0, 0, 0);
        isDrawn(x, "0011100", "1111110", "0101010", "0000000");
        x = drawn("00");
        x.limit(1);
        due.is("two", x.mend(0), 1);
        x = drawn("00000000000000000000", "00000000000000000001", "01010101010101010101",
            "22222222221111111111", "11111333333333311111");
        x.limit(1);
        due.is("twenty, closed", x.mend(0), 0x55555);
        due.is("nineteen", x.mend(1), 0x2aaaa);
        due.is("twenty runs", x.mend(2), 0);
        due.is("twenty runs", x.floats(2, 0), 0);
        due.is("twenty runs", x.floats(2, 1), 1);
        due.is("two runs of ten", x.mend(3), 0x55555);
        due.is("one of them round", x.mend(4), 0x2aa0 | 1 << 16 | 1 << 18 | 1 | 2 | 8);
        x.limit(9);
        due.is("two runs of ten", x.mend(3), 1 | 1 << 10);
        due.is("one of them round", x.mend(4), 1 | 1 << 5);
        x.limit(20);
        due.is("nothing is mended", x.mend(0), 0);
    }

    // ---- promises 16 to 21

    private static void cloth() {
        faults();
        weaving();
        seeing();
        explaining();
    }

    private static void faults() {
        due.about("promises 16, 17");
        DrawLooms x = drawn("0120", "0123", "1121");
        due.is("cords", x.cords(), 4);
        due.is("broken", x.fault(1, 3, HIGH), 1);
        due.is("skipped", x.fault(2, 2, LOW), 1);
        due.is("crossed", x.fault(3, 3, 0), 1);
        due.is("told", x.count(8), 3);
        due.is("in place of it", x.fault(1, 0, 0), 1);
        due.is("told", x.count(8), 3);
        due.is("kind ahead of all", x.fault(0, -1, -1), -2);
        due.is("kind", x.fault(4, 0, 0), -2);
        due.is("cord", x.fault(1, 4, 0), -1);
        due.is("cord", x.fault(1, -1, 0), -1);
        due.is("pick", x.fault(2, 3, 0), -1);
        due.is("pick", x.fault(2, -1, 0), -1);
        due.is("cord a", x.fault(3, 4, 0), -1);
        due.is("cord b", x.fault(3, 0, 4), -1);
        due.is("cord b", x.fault(3, 0, -1), -1);
        due.is("one cord", x.fault(3, 2, 2), -1);
        refusals(x, 8, 2, 0, 0, 0, 0);
        due.is("clear", x.clear(), 3);
        due.is("told", x.count(8), 0);
        due.is("clear", x.clear(), 0);
        due.is("weave", x.weave(), 0);
        x.fault(2, 0, 0);
        due.is("clear", x.clear(), 1);
        due.is("cords as they are now", drawn("0000").fault(1, 1, 0), -1);
    }

    private static void weaving() {
        due.about("promises 18, 19");
        DrawLooms x = drawn("0120", "3123", "1121");
        due.is("no cloth", x.cloth(0, 0), -3);
        due.is("no cloth ahead of no square", x.cloth(-1, 0), -3);
        due.is("cords", x.cords(), 3);
        due.is("weave", x.weave(), 0);
        isCloth(x, "0120", "3123", "1121");
        x.fault(1, 0, 0);
        due.is("broken", x.weave(), 4);
        isCloth(x, "0120", "0120", "0120");
        x.clear();
        x.fault(2, 0, 0);
        due.is("skipped", x.weave(), 8);
        isCloth(x, "3123", "1121", "0000");
        x.fault(2, 2, 0);
        due.is("last one skipped", x.weave(), 4);
        isCloth(x, "0120", "3123", "0000");
        x.clear();
        x.fault(3, 2, 0);
        due.is("crossed", x.weave(), 9);
        isCloth(x, "2102", "2132", "2112");
        x.fault(1, 0, 0);
        x.fault(2, 1, 0);
        due.is("all three", x.weave(), 8);
        isCloth(x, "0100", "0110", "0000");
        isDrawn(x, "0120", "3123", "1121");
        due.is("left", x.cloth(-1, 0), -1);
        due.is("above", x.cloth(0, -1), -1);
        due.is("the design is another one", x.paper(2, 2), 1);
        isCloth(x, "0100", "0110", "0000");
        gone(x);
    }

    private static void gone(DrawLooms x) {
        draw(x, "12", "12");
        x.clear();
        x.fault(1, 1, 0);
        x.fault(2, 1, 0);
        x.fault(3, 1, 0);
        due.is("weave", x.weave(), 4);
        isCloth(x, "20", "00");
        draw(x, "33");
        due.is("no such cord, no such pick", x.weave(), 0);
        isCloth(x, "33");
        due.is("they are told still", x.count(8), 3);
        draw(x, "12", "12");
        due.is("they are there again", x.weave(), 4);
        x.clear();
        draw(x, "0123");
        x.fault(3, 0, 2);
        draw(x, "0111");
        due.is("one of two cords is there", x.weave(), 0);
        x.clear();
        draw(x, "0123");
        x.fault(3, 2, 0);
        draw(x, "0111");
        due.is("one of two cords is there", x.weave(), 0);
        isCloth(x, "0111");
        greatestCloth();
    }

    private static void greatestCloth() {
        DrawLooms x = new DrawLooms();
        x.paper(20, 20);
        for (int y = 0; y < 20; y++) {
            x.fill(y, y, 20, 1);
            x.square(y, y, 2);
        }
        due.is("cords", x.cords(), 20);
        due.is("mirror", x.mirror(0), -9);
        due.is("span", x.span(1), 20);
        x.fault(2, 19, 0);
        due.is("last pick skipped", x.weave(), 20);
        isExplained(x, 2, 19, -9);
        x.fault(2, 0, 0);
        due.is("first pick skipped", x.weave(), 19 * 2 + 20);
        isExplained(x, 2, 0, -9);
        x.clear();
        x.fault(3, 19, 18);
        due.is("last cords crossed", x.weave(), 4);
        isExplained(x, 3, 18, 19);
        x.clear();
        x.fault(1, 19, 0);
        due.is("last cord broken", x.weave(), 20);
        isExplained(x, 1, 19, -9);
        due.is("cards", x.cards(3), 1);
        x.square(19, 19, 0);
        isBeam(x, 3, 2, 0, 1);
        due.is("hang", x.hang(3), 400);
        due.is("at", x.at(19, 19), 2);
    }

    private static void seeing() {
        due.about("promise 20");
        DrawLooms x = drawn("012", "321");
        due.is("no cloth ahead of no square", x.see(9, 9, 9), -3);
        x.weave();
        due.is("see", x.see(2, 1, 3), 1);
        due.is("see", x.see(2, 1, 0), 3);
        isCloth(x, "012", "320");
        isDrawn(x, "012", "321");
        int[][] wrong = {{3, 0, 0}, {-1, 0, 0}, {0, 2, 0}, {0, -1, 0}, {0, 0, 4}, {0, 0, -1}};
        for (int[] w : wrong) {
            due.is("see", x.see(w[0], w[1], w[2]), -1);
        }
        isCloth(x, "012", "320");
        x.paper(1, 1);
        due.is("squares of the cloth", x.see(2, 1, 2), 0);
        due.is("woven anew", x.weave(), 0);
        isCloth(x, "0");
        refusals(x, wrong.length + 6, 0, 1, 0, 0, 0);
    }

    private static void explaining() {
        due.about("promise 21");
        DrawLooms x = drawn("0120", "3123", "1121");
        due.is("what ahead of state", x.explained(3), -2);
        due.is("what ahead of state", x.explained(-1), -2);
        due.is("no cloth", x.explained(2), -3);
        x.weave();
        isExplained(x, 0, -9, -9);
        x.fault(1, 1, 0);
        x.weave();
        isExplained(x, 1, 1, -9);
        x.clear();
        x.fault(2, 1, 0);
        x.weave();
        isExplained(x, 2, 1, -9);
        x.clear();
        x.fault(3, 2, 1);
        x.weave();
        isExplained(x, 3, 1, 2);
        x.see(0, 0, 3);
        isExplained(x, -9, -9, -9);
        x.see(0, 0, 0);
        isExplained(x, 3, 1, 2);
        x.paper(4, 2);
        due.is("another high", x.explained(0), -3);
        x.paper(3, 3);
        due.is("another wide", x.explained(0), -3);
        refusals(x, 0, 2, 3, 0, 0, 0);
        firstExplanations();
    }

    private static void firstExplanations() {
        DrawLooms x = drawn("1000", "0000");
        x.fault(3, 0, 1);
        x.weave();
        isExplained(x, 3, 0, 1);
        x = drawn("01", "01");
        x.fault(2, 0, 0);
        x.weave();
        isExplained(x, 2, 0, -9);
        x = drawn("01", "00");
        x.fault(2, 0, 0);
        x.weave();
        isExplained(x, 1, 1, -9);
        x = drawn("12", "12", "12");
        x.fault(2, 2, 0);
        x.weave();
        isExplained(x, 2, 0, -9);
        x = drawn("11", "22");
        x.fault(1, 0, 0);
        x.weave();
        isExplained(x, 1, 0, -9);
        x = drawn("12", "21");
        x.weave();
        draw(x, "21", "12");
        isExplained(x, 3, 0, 1);
        draw(x, "12", "21");
        isExplained(x, 0, -9, -9);
    }

    // ---- promises 22 to 27, 37

    private static void orders() {
        setting();
        ordering();
        best();
        working();
        days();
    }

    private static void setting() {
        due.about("promise 22");
        DrawLooms x = new DrawLooms();
        due.is("speed", x.set(0, 20), 2);
        due.is("speed", x.set(0, 1), 20);
        due.is("tie", x.set(1, 20), 3);
        due.is("tie", x.set(1, 0), 20);
        due.is("what ahead of below", x.set(2, -1), -2);
        due.is("what", x.set(-1, 5), -2);
        due.is("speed below", x.set(0, 0), -4);
        due.is("tie below", x.set(1, -1), -4);
        due.is("speed above", x.set(0, 21), -6);
        due.is("tie above", x.set(1, 21), -6);
        due.is("speed", x.set(0, 7), 1);
        due.is("tie", x.set(1, 7), 0);
        refusals(x, 0, 2, 0, 2, 0, 2);
    }

    private static void ordering() {
        due.about("promises 23, 37");
        DrawLooms x = new DrawLooms();
        due.is("none", x.orderOf(0, 0), -1);
        due.is("least", x.order(1, 0, 0), 0);
        due.is("greatest", x.order(99, 5, 2000), 1);
        int[][] wrong = {{0, 1, 1, -4}, {1, -1, 1, -4}, {1, 1, -1, -4}, {100, 6, -1, -4},
            {100, 1, 1, -6}, {1, 6, 1, -6}, {1, 1, 2001, -6}, {HIGH, LOW, 1, -4}};
        for (int[] w : wrong) {
            due.is("order", x.order(w[0], w[1], w[2]), w[3]);
        }
        int[] parts = {99, 5, 2000, -9};
        for (int what = 0; what < 4; what++) {
            due.is("orderOf(1, " + what + ")", x.orderOf(1, what), parts[what]);
        }
        due.is("order", x.orderOf(2, 0), -1);
        due.is("order ahead of what", x.orderOf(-1, 4), -1);
        due.is("what", x.orderOf(0, 4), -2);
        due.is("what", x.orderOf(0, -1), -2);
        for (int i = 2; i < 12; i++) {
            due.is("order", x.order(i, 3, i), i);
        }
        due.is("no room", x.order(1, 1, 1), -6);
        due.is("below ahead of room", x.order(0, 1, 1), -4);
        due.is("orders", x.count(3), 12);
        due.is("the last one", x.orderOf(11, 0), 11);
        refusals(x, 3, 2, 0, 6, 0, 4);
    }

    private static void best() {
        due.about("promises 24, 25");
        DrawLooms x = new DrawLooms();
        due.is("without orders", x.best(), 0);
        due.is("without orders", x.bestAt(0), -9);
        x.set(0, 1);
        x.order(4, 1, 4);
        x.order(2, 2, 5);
        x.order(1, 1, 9);
        isBest(x, 9, 1, 2, 0);
        x.set(1, 0);
        isBest(x, 1, 0, 1, 2);
        x.set(1, 3);
        x.work(2);
        isBest(x, 12, 0, 1);
        x.days(1);
        isBest(x, 14, 0, 1);
        x.order(1, 1, 0);
        isBest(x, 22, 3, 0, 1);
        due.is("place", x.bestAt(3), -9);
        due.is("place", x.bestAt(-1), -9);
        due.is("place", x.bestAt(HIGH), -9);
        refusals(x, 0, 0, 0, 0, 0, 0);
        DrawLooms all = new DrawLooms();
        all.set(1, 0);
        for (int i = 0; i < 7; i++) {
            all.order(14 - 2 * i, 0, 0);
        }
        isBest(all, 84, 6, 5, 4, 3, 2, 1, 0);
        all.order(1, 0, 0);
        due.is("more than 7", all.best(), -3);
        due.is("more than 7", all.bestAt(9), -3);
        all.work(7);
        isBest(all, 91, 6, 5, 4, 3, 2, 1, 0);
        refusals(all, 0, 0, 2, 0, 0, 0);
        for (int i = 0; i < 7; i++) {
            x.order(2, 5, 2000);
        }
        due.is("more than 7", x.best(), -3);
        firstByNumbers();
    }

    private static void firstByNumbers() {
        DrawLooms x = new DrawLooms();
        for (int i = 0; i < 12; i++) {
            x.order(2, 1, 2000);
        }
        x.law(0, 3, 0);
        due.is("open", x.count(4), 12);
        for (int i = 0; i < 5; i++) {
            due.is("work", x.work(2 * i), 0);
        }
        due.is("paid", x.count(6), 5 * 2 * 3);
        isBest(x, 0, 1, 3, 5, 7, 9, 10, 11);
        x.days(1995);
        isBest(x, 4 + 5 + 6 + 7 + 8 + 9 + 10, 1, 3, 5, 7, 9, 10, 11);
        due.is("work", x.work(11), 4);
        isBest(x, 5 + 6 + 7 + 8 + 9 + 10, 1, 3, 5, 7, 9, 10);
        for (int i = 0; i < 6; i++) {
            due.is("work", x.work(i < 5 ? 2 * i + 1 : 10), 5 + i);
        }
        isBest(x, 0);
        due.is("paid, all twelve", x.count(6), 12 * 2 * 3);
    }

    private static void working() {
        due.about("promise 26");
        DrawLooms x = new DrawLooms();
        due.is("none", x.work(0), -1);
        x.order(9, 4, 8);
        x.order(9, 4, 12);
        x.order(1, 0, 0);
        due.is("on its due", x.work(0), 0);
        due.is("day", x.count(2), 8);
        due.is("lot", x.count(7), 4);
        due.is("open", x.count(4), 2);
        due.is("without a tie", x.work(1), 1);
        due.is("done", x.orderOf(1, 3), 13);
        due.is("with a tie", x.work(2), 17);
        due.is("lot", x.count(7), 0);
        due.is("woven", x.work(2), -3);
        due.is("no such", x.work(3), -1);
        due.is("no such", x.work(-1), -1);
        x.order(4, 0, 2000);
        x.days(2999 - 17);
        due.is("day above 3000", x.work(3), -6);
        due.is("day", x.count(2), 2999);
        due.is("open still", x.orderOf(3, 3), -9);
        x.set(0, 4);
        due.is("day 3000", x.work(3), 1000);
        due.is("day", x.count(2), 3000);
        due.is("woven ahead of room", x.work(3), -3);
        refusals(x, 3, 0, 2, 0, 0, 1);
    }

    private static void days() {
        due.about("promise 27");
        DrawLooms x = new DrawLooms();
        due.is("days", x.days(1), 1);
        due.is("days", x.days(2998), 2999);
        due.is("below", x.days(0), -4);
        due.is("below", x.days(LOW), -4);
        due.is("above", x.days(2), -6);
        due.is("above", x.days(HIGH), -6);
        due.is("day", x.count(2), 2999);
        due.is("greatest", x.days(1), 3000);
        refusals(x, 0, 0, 0, 2, 0, 2);
    }

    // ---- promises 28 to 30

    private static void silkAndLaws() {
        laws();
        silk();
    }

    private static void laws() {
        due.about("promise 28");
        DrawLooms x = new DrawLooms();
        due.is("least", x.law(0, 0, 0), 0);
        due.is("greatest", x.law(200, 999, 3000), 1);
        x.days(5);
        int[][] wrong = {{-1, 0, 9, -4}, {0, -1, 9, -4}, {0, 0, 4, -4}, {201, 1000, 4, -4},
            {201, 0, 9, -6}, {0, 1000, 9, -6}, {0, 0, 3001, -6}, {0, 0, LOW, -4}};
        for (int[] w : wrong) {
            due.is("law", x.law(w[0], w[1], w[2]), w[3]);
        }
        for (int i = 2; i < 20; i++) {
            due.is("law", x.law(i, i, 5), i);
        }
        due.is("no room", x.law(1, 1, 5), -6);
        due.is("below ahead of room", x.law(1, 1, 4), -4);
        due.is("laws", x.count(5), 20);
        refusals(x, 0, 0, 0, 6, 0, 4);
        x.order(1, 0, 0);
        x.work(0);
        due.is("of several the greatest number", x.count(6), 19);
        inForce();
    }

    private static void inForce() {
        DrawLooms x = new DrawLooms();
        x.set(1, 0);
        x.set(0, 1);
        for (int i = 0; i < 5; i++) {
            x.order(2, 0, 0);
        }
        x.work(0);
        due.is("without a law", x.count(6), 0);
        x.law(0, 5, 6);
        x.law(0, 7, 4);
        x.work(1);
        due.is("from its day on", x.count(6), 14);
        x.work(2);
        due.is("the latest day, not the greatest number", x.count(6), 24);
        x.law(0, 100, 9);
        x.work(3);
        due.is("not ahead of its day", x.count(6), 34);
        x.work(4);
        due.is("behind its day", x.count(6), 234);
        x.law(0, 1, 10);
        due.is("the price of the day on which it is done", x.count(6), 36);
        x.law(0, 50, 11);
        due.is("later laws change nothing", x.count(6), 36);
    }

    private static void silk() {
        due.about("promises 29, 30");
        DrawLooms x = new DrawLooms();
        due.is("out", x.silk(5, false, 100000, 0), 100000);
        due.is("wet", x.silk(5, false, 1, 40), 0);
        due.is("wet", x.silk(5, false, 999, 7), 933);
        due.is("wet", x.silk(5, false, 100000, 40), 71428);
        x.law(100, 0, 1);
        due.is("home, no law yet", x.silk(5, true, 1000, 0), 1000);
        isAccount(x, 5, 172361, 1000, 0, 171361);
        x.days(1);
        due.is("home", x.silk(5, true, 1099, 10), 999);
        isAccount(x, 5, 172361, 1999, 99, 170263);
        x.law(1, 0, 1);
        due.is("home", x.silk(5, true, 999, 0), 999);
        isAccount(x, 5, 172361, 2998, 99, 169264);
        due.is("more home than out", x.silk(0, true, 2000, 0), 2000);
        isAccount(x, 0, 0, 2000, 2, -2002);
        isAccount(x, 1, 0, 0, 0, 0);
        due.is("no waste of what goes out", x.silk(1, false, 5000, 0), 5000);
        isAccount(x, 1, 5000, 0, 0, 5000);
        due.is("account", x.silk(6, true, 0, 0), -1);
        due.is("account", x.silk(-1, true, 1, 0), -1);
        due.is("grains", x.silk(0, false, 0, 41), -4);
        due.is("wet", x.silk(0, false, 100001, -1), -4);
        due.is("grains", x.silk(0, false, 100001, 0), -6);
        due.is("wet", x.silk(0, false, 1, 41), -6);
        isAccount(x, 0, 0, 2000, 2, -2002);
        due.is("account", x.account(6, 0), 2000000001);
        due.is("account ahead of what", x.account(-1, 4), 2000000001);
        due.is("what", x.account(0, 4), 2000000002);
        due.is("what", x.account(0, -1), 2000000002);
        refusals(x, 4, 2, 0, 2, 0, 2);
    }

    // ---- promises 31 to 36

    private static void beams() {
        warps();
        joins();
        cards();
    }

    private static void warps() {
        due.about("promises 31, 34");
        DrawLooms x = new DrawLooms();
        due.is("least", x.warp(0, 1), 1);
        due.is("greatest", x.warp(3, 500), 1);
        isBeam(x, 0, 1, 1, -9);
        isBeam(x, 3, 1, 500, -9);
        due.is("beam", x.warp(4, 0), -1);
        due.is("beam", x.warp(-1, 5), -1);
        due.is("not empty ahead of below", x.warp(0, 0), -3);
        due.is("below", x.warp(1, 0), -4);
        due.is("above", x.warp(1, 501), -6);
        isBeam(x, 1, 0, 0, -9);
        due.is("cut", x.cut(3, 499), 1);
        due.is("below", x.cut(3, 0), -4);
        due.is("above", x.cut(3, 2), -6);
        due.is("above", x.cut(3, HIGH), -6);
        isBeam(x, 3, 1, 1, -9);
        due.is("all of it", x.cut(3, 1), 0);
        isBeam(x, 3, 0, 0, -9);
        due.is("empty ahead of below", x.cut(3, 0), -5);
        due.is("beam", x.cut(4, 1), -1);
        due.is("beam", x.cut(-1, 1), -1);
        x.cards(2);
        due.is("cards ahead of below", x.cut(2, 0), -2);
        due.is("cards", x.warp(2, 5), -3);
        due.is("empty again", x.warp(3, 7), 1);
        refusals(x, 4, 1, 2, 2, 1, 3);
    }

    private static void joins() {
        due.about("promise 35");
        DrawLooms x = new DrawLooms();
        x.warp(0, 200);
        x.warp(1, 300);
        due.is("join", x.join(1, 0), 500);
        isBeam(x, 1, 1, 500, -9);
        isBeam(x, 0, 0, 0, -9);
        x.warp(0, 1);
        due.is("above", x.join(0, 1), -6);
        isBeam(x, 0, 1, 1, -9);
        due.is("one beam", x.join(0, 0), -1);
        due.is("one beam ahead of empty", x.join(2, 2), -1);
        due.is("beam", x.join(4, 0), -1);
        due.is("beam", x.join(0, -1), -1);
        due.is("a is empty", x.join(2, 0), -5);
        due.is("b is empty", x.join(0, 2), -5);
        x.cards(3);
        due.is("empty ahead of cards", x.join(3, 2), -5);
        due.is("empty ahead of cards", x.join(2, 3), -5);
        due.is("cards", x.join(3, 1), -2);
        due.is("cards", x.join(1, 3), -2);
        refusals(x, 4, 2, 0, 0, 4, 1);
    }

    private static void cards() {
        due.about("promises 32, 33, 36");
        DrawLooms x = drawn("0123", "3210");
        due.is("cards", x.cards(0), 1);
        isBeam(x, 0, 2, 0, 0);
        due.is("beam", x.cards(4), -1);
        due.is("beam", x.cards(-1), -1);
        due.is("not empty", x.cards(0), -3);
        x.warp(1, 9);
        due.is("a warp", x.cards(1), -3);
        x.square(0, 0, 1);
        x.fill(0, 1, 4, 0);
        isBeam(x, 0, 2, 0, 4);
        due.is("cards", x.cards(2), 1);
        due.is("hang", x.hang(0), 8);
        isDrawn(x, "0123", "3210");
        isBeam(x, 0, 2, 0, 0);
        isBeam(x, 2, 2, 0, 4);
        x.square(0, 0, 2);
        isBeam(x, 0, 2, 0, 1);
        x.paper(4, 3);
        isBeam(x, 0, 2, 0, -9);
        x.paper(2, 2);
        isBeam(x, 0, 2, 0, -9);
        due.is("hang", x.hang(2), 8);
        isDrawn(x, "1123", "0000");
        due.is("beam", x.hang(4), -1);
        due.is("beam", x.hang(-1), -1);
        due.is("empty", x.hang(3), -5);
        due.is("a warp", x.hang(1), -2);
        isDrawn(x, "1123", "0000");
        due.is("beam ahead of what", x.beamOf(4, 3), -1);
        due.is("beam", x.beamOf(-1, 0), -1);
        due.is("what", x.beamOf(0, 3), -2);
        due.is("what", x.beamOf(0, -1), -2);
        refusals(x, 6, 3, 2, 0, 1, 0);
    }

    // ---- promise 38

    private static void counts() {
        due.about("promise 38");
        DrawLooms x = new DrawLooms();
        x.paper(5, 7);
        x.days(4);
        x.order(2, 3, 0);
        x.order(4, 3, 0);
        x.order(4, 3, 0);
        x.law(0, 11, 4);
        x.law(0, 12, 2000);
        x.fault(2, 0, 0);
        x.work(0);
        int[] counts = {5, 7, 8, 3, 2, 2, 22, 3, 1};
        for (int what = 0; what < counts.length; what++) {
            due.is("count(" + what + ")", x.count(what), counts[what]);
        }
        for (int what : new int[] {-1, 9, 10, 17, 18, LOW, LOW + 9, HIGH}) {
            due.is("count(" + what + ")", x.count(what), -9);
        }
        refusals(x, 0, 0, 0, 0, 0, 0);
        x.at(9, 9);
        x.span(9);
        x.span(9);
        x.cloth(0, 0);
        x.days(0);
        x.hang(0);
        x.hang(0);
        x.hang(0);
        x.paper(99, 99);
        refusals(x, 1, 2, 1, 1, 3, 1);
    }
}
