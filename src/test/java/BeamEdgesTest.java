/** Edges that the document names of beams and counts: a test for each sentence. */
public final class BeamEdgesTest extends Bench {
    private BeamEdgesTest() { }

    public static void main(String[] args) {
        emptyAtFirst();
        leastAndGreatestWarp();
        warpOnBeamThatIsNotEmpty();
        cardsAreCopy();
        cardsOnBeamThatIsNotEmpty();
        hangKeepsCards();
        hangOfAnotherSize();
        hangRefused();
        cutToNothing();
        cutRefused();
        joinUpToFiveHundred();
        joinRefused();
        ellsOfBeam();
        cardsThatDiffer();
        countsOfAnotherWhat();
        countsOfRefusals();
        due.finish();
    }

    private static void emptyAtFirst() {
        due.about("promise 1: BEAMS 0 to 3 are empty");
        DrawLooms x = new DrawLooms();
        for (int beam = 0; beam < 4; beam++) {
            isBeam(x, beam, 0, 0, -9);
            due.is("cut", x.cut(beam, 1), -5);
            due.is("hang", x.hang(beam), -5);
            due.is("join", x.join(beam, 3 - beam), -5);
        }
        due.is("no fifth one", x.beamOf(4, 0), -1);
        due.is("none ahead of 0", x.beamOf(-1, 0), -1);
        refusals(x, 2, 0, 0, 0, 12, 0);
    }

    private static void leastAndGreatestWarp() {
        due.about("promise 31: a WARP (ELLS, 1 .. 500)");
        DrawLooms x = new DrawLooms();
        due.is("none", x.warp(0, 0), -4);
        due.is("above", x.warp(0, 501), -6);
        isBeam(x, 0, 0, 0, -9);
        due.is("least", x.warp(0, 1), 1);
        due.is("greatest", x.warp(3, 500), 1);
        isBeam(x, 0, 1, 1, -9);
        isBeam(x, 1, 0, 0, -9);
        isBeam(x, 3, 1, 500, -9);
        due.is("no such BEAM", x.warp(4, 5), -1);
        due.is("no such BEAM", x.warp(-1, 5), -1);
        refusals(x, 2, 0, 0, 1, 0, 1);
    }

    private static void warpOnBeamThatIsNotEmpty() {
        due.about("promise 31: -3 it is not empty");
        DrawLooms x = new DrawLooms();
        x.warp(0, 7);
        x.cards(1);
        due.is("a WARP", x.warp(0, 9), -3);
        due.is("CARDS", x.warp(1, 9), -3);
        due.is("ahead of below", x.warp(0, 0), -3);
        due.is("ahead of above", x.warp(1, 501), -3);
        isBeam(x, 0, 1, 7, -9);
        isBeam(x, 1, 2, 0, 0);
        refusals(x, 0, 0, 4, 0, 0, 0);
        due.is("all of it is cut off", x.cut(0, 7), 0);
        due.is("empty now", x.warp(0, 9), 1);
        isBeam(x, 0, 1, 9, -9);
    }

    private static void cardsAreCopy() {
        due.about("promise 32: CARDS (a copy of THE DESIGN as it was)");
        DrawLooms x = drawn("12", "30");
        for (int beam = 0; beam < 4; beam++) {
            due.is("cards", x.cards(beam), 1);
            x.square(1, 1, beam);
        }
        x.paper(1, 1);
        int[] last = {0, 0, 1, 2};
        for (int beam = 0; beam < 4; beam++) {
            due.is("hang", x.hang(beam), 4);
            due.is("as it was", x.at(1, 1), last[beam]);
            due.is("as it was", x.at(0, 1), 3);
        }
    }

    private static void cardsOnBeamThatIsNotEmpty() {
        due.about("promise 32: -3");
        DrawLooms x = drawn("12", "30");
        x.cards(0);
        x.warp(1, 3);
        draw(x, "33");
        due.is("CARDS", x.cards(0), -3);
        due.is("a WARP", x.cards(1), -3);
        due.is("no such BEAM", x.cards(4), -1);
        due.is("no such BEAM", x.cards(-1), -1);
        isBeam(x, 1, 1, 3, -9);
        due.is("the first CARDS still", x.hang(0), 4);
        isDrawn(x, "12", "30");
        x.cut(1, 3);
        due.is("empty now", x.cards(1), 1);
        isBeam(x, 1, 2, 0, 0);
        refusals(x, 2, 0, 2, 0, 0, 0);
    }

    private static void hangKeepsCards() {
        due.about("promise 33: the BEAM holds them still");
        DrawLooms x = drawn("12", "30");
        x.cards(2);
        for (int i = 0; i < 3; i++) {
            due.is("hang", x.hang(2), 4);
            isDrawn(x, "12", "30");
            isBeam(x, 2, 2, 0, 0);
            x.fill(0, 0, 2, 0);
            isBeam(x, 2, 2, 0, 2);
        }
    }

    private static void hangOfAnotherSize() {
        due.about("promise 33: how many squares of it");
        DrawLooms x = new DrawLooms();
        int[][] sizes = {{1, 1}, {20, 20}, {20, 1}, {1, 20}};
        for (int beam = 0; beam < 4; beam++) {
            x.paper(sizes[beam][0], sizes[beam][1]);
            x.square(sizes[beam][0] - 1, sizes[beam][1] - 1, 1 + beam % 3);
            x.cards(beam);
        }
        for (int beam = 3; beam >= 0; beam--) {
            due.is("hang", x.hang(beam), sizes[beam][0] * sizes[beam][1]);
            due.is("WIDE", x.count(0), sizes[beam][0]);
            due.is("HIGH", x.count(1), sizes[beam][1]);
            due.is("the last square", x.at(sizes[beam][0] - 1, sizes[beam][1] - 1), 1 + beam % 3);
            due.is("none behind it", x.at(sizes[beam][0], 0), -1);
        }
    }

    private static void hangRefused() {
        due.about("promise 33: -1; -5; -2");
        DrawLooms x = drawn("12", "30");
        x.warp(1, 4);
        due.is("no such BEAM", x.hang(4), -1);
        due.is("no such BEAM", x.hang(-1), -1);
        due.is("empty", x.hang(0), -5);
        due.is("a WARP", x.hang(1), -2);
        isDrawn(x, "12", "30");
        isBeam(x, 1, 1, 4, -9);
        refusals(x, 2, 1, 0, 0, 1, 0);
    }

    private static void cutToNothing() {
        due.about("promise 34: what is left (with 0 the BEAM is empty)");
        DrawLooms x = new DrawLooms();
        x.warp(0, 500);
        due.is("one", x.cut(0, 1), 499);
        due.is("all but one", x.cut(0, 498), 1);
        isBeam(x, 0, 1, 1, -9);
        due.is("the last one", x.cut(0, 1), 0);
        isBeam(x, 0, 0, 0, -9);
        due.is("empty", x.cut(0, 1), -5);
        due.is("CARDS may come now", x.cards(0), 1);
        x.warp(1, 500);
        due.is("all at once", x.cut(1, 500), 0);
        isBeam(x, 1, 0, 0, -9);
    }

    private static void cutRefused() {
        due.about("promise 34: -4 below 1; -6 above what there is");
        DrawLooms x = new DrawLooms();
        x.warp(0, 10);
        x.warp(1, 500);
        x.cards(2);
        due.is("none", x.cut(0, 0), -4);
        due.is("below", x.cut(0, -1), -4);
        due.is("one above", x.cut(0, 11), -6);
        due.is("one above", x.cut(1, 501), -6);
        due.is("CARDS", x.cut(2, 1), -2);
        due.is("CARDS ahead of below", x.cut(2, 0), -2);
        due.is("empty ahead of below", x.cut(3, 0), -5);
        due.is("no such BEAM", x.cut(4, 0), -1);
        isBeam(x, 0, 1, 10, -9);
        isBeam(x, 1, 1, 500, -9);
        isBeam(x, 2, 2, 0, 0);
        refusals(x, 1, 2, 0, 2, 1, 2);
    }

    private static void joinUpToFiveHundred() {
        due.about("promise 35: the ELLS of the one come to the other, whose BEAM is empty then; -6 above 500");
        DrawLooms x = new DrawLooms();
        x.warp(0, 250);
        x.warp(1, 251);
        due.is("501", x.join(0, 1), -6);
        due.is("501", x.join(1, 0), -6);
        isBeam(x, 0, 1, 250, -9);
        isBeam(x, 1, 1, 251, -9);
        x.cut(1, 1);
        due.is("500", x.join(0, 1), 500);
        isBeam(x, 0, 1, 500, -9);
        isBeam(x, 1, 0, 0, -9);
        x.warp(3, 1);
        due.is("501", x.join(3, 0), -6);
        x.cut(0, 499);
        due.is("the least", x.join(3, 0), 2);
        isBeam(x, 3, 1, 2, -9);
        isBeam(x, 0, 0, 0, -9);
        due.is("empty now", x.warp(0, 5), 1);
        x.warp(1, 500);
        x.warp(2, 500);
        due.is("1000", x.join(1, 2), -6);
        refusals(x, 0, 0, 0, 0, 0, 4);
    }

    private static void joinRefused() {
        due.about("promise 35: -1 (a and b are one, too); -5 a or b; -2 a or b");
        DrawLooms x = new DrawLooms();
        x.warp(0, 1);
        x.cards(1);
        int[][] wrong = {{0, 0, -1}, {1, 1, -1}, {2, 2, -1}, {4, 0, -1}, {0, 4, -1}, {-1, 0, -1}, {0, -1, -1},
            {2, 4, -1}, {2, 0, -5}, {0, 2, -5}, {2, 3, -5}, {1, 2, -5}, {2, 1, -5}, {1, 0, -2}, {0, 1, -2}};
        for (int[] w : wrong) {
            due.is("join(" + w[0] + ", " + w[1] + ")", x.join(w[0], w[1]), w[2]);
        }
        x.cards(2);
        due.is("CARDS both", x.join(1, 2), -2);
        isBeam(x, 0, 1, 1, -9);
        isBeam(x, 1, 2, 0, 0);
        refusals(x, 8, 3, 0, 0, 5, 0);
    }

    private static void ellsOfBeam() {
        due.about("promise 36: 0 what it holds (0 nothing, 1 a WARP, 2 CARDS), 1 ELLS (0)");
        DrawLooms x = new DrawLooms();
        x.warp(0, 321);
        x.cut(0, 321);
        x.cards(0);
        isBeam(x, 0, 2, 0, 0);
        isBeam(x, 1, 0, 0, -9);
        x.warp(2, 321);
        isBeam(x, 2, 1, 321, -9);
        for (int beam = 0; beam < 4; beam++) {
            due.is("no such what", x.beamOf(beam, 3), -2);
            due.is("no such what", x.beamOf(beam, -1), -2);
        }
        due.is("no such BEAM, told first", x.beamOf(4, 3), -1);
        refusals(x, 1, 8, 0, 0, 0, 0);
    }

    private static void cardsThatDiffer() {
        due.about("promise 36: in how many squares (-9: no CARDS, or of another WIDE or HIGH)");
        DrawLooms x = drawn("12", "30", "21");
        x.cards(0);
        due.is("none", x.beamOf(0, 2), 0);
        draw(x, "21", "03", "12");
        due.is("all", x.beamOf(0, 2), 6);
        x.paper(2, 2);
        due.is("another HIGH", x.beamOf(0, 2), -9);
        x.paper(3, 3);
        due.is("another WIDE", x.beamOf(0, 2), -9);
        x.paper(3, 2);
        due.is("the two changed about", x.beamOf(0, 2), -9);
        x.paper(2, 3);
        due.is("all but the one that is 0", x.beamOf(0, 2), 5);
        x = new DrawLooms();
        x.paper(20, 20);
        x.cards(3);
        x.square(19, 19, 3);
        due.is("the last square", x.beamOf(3, 2), 1);
        for (int y = 0; y < 20; y++) {
            x.fill(0, y, 20, 1);
        }
        due.is("four hundred", x.beamOf(3, 2), 400);
        refusals(x, 0, 0, 0, 0, 0, 0);
    }

    private static void countsOfAnotherWhat() {
        due.about("promise 38: -9 for another what");
        DrawLooms x = new DrawLooms();
        x.at(-1, 0);
        for (int what : new int[] {LOW, LOW + 10, LOW + 11, -16, -11, -9, -1, 9, 10, 17, 18, 21, HIGH}) {
            due.is("count(" + what + ")", x.count(what), -9);
        }
        refusals(x, 1, 0, 0, 0, 0, 0);
        due.about("promise 38: 7 the LOT on THE LOOM (-9)");
        due.is("none", x.count(7), -9);
        x.order(1, 0, 0);
        due.is("none yet", x.count(7), -9);
        x.work(0);
        due.is("LOT 0", x.count(7), 0);
        refusals(x, 1, 0, 0, 0, 0, 0);
    }

    private static void countsOfRefusals() {
        due.about("promise 38: 11 .. 16 REFUSALS -1 .. -6");
        DrawLooms x = new DrawLooms();
        for (int round = 1; round <= 60; round++) {
            due.is("-1", x.cord(8), -1);
            due.is("-2", x.span(2), -2);
            due.is("-3", x.cloth(0, 0), -3);
            due.is("-4", x.limit(0), -4);
            due.is("-5", x.hang(0), -5);
            due.is("-6", x.limit(21), -6);
        }
        refusals(x, 60, 60, 60, 60, 60, 60);
        due.is("an ACCOUNT", x.account(6, 0), 2000000001);
        due.is("a what", x.account(0, 4), 2000000002);
        refusals(x, 61, 61, 60, 60, 60, 60);
    }
}
