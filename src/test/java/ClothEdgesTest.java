/** Edges that the document names of faults, the cloth, and what explains it: a test for each sentence. */
public final class ClothEdgesTest extends Bench {
    private ClothEdgesTest() { }

    public static void main(String[] args) {
        leastAndGreatestFaults();
        secondCountsForCrossedAlone();
        inPlaceOfTheOneOfThatKind();
        cordsAndPicksAsTheyAreNow();
        refusedFaultLeavesTheOther();
        clearTellsHowMany();
        broken();
        skipped();
        crossed();
        crossedAheadOfBroken();
        allThree();
        gone();
        sizeWhenWoven();
        wovenAnew();
        seenOtherwise();
        explainedByNone();
        explainedByBroken();
        explainedBySkipped();
        explainedByCrossed();
        explainedByNoSuch();
        explainedByDesignAsItIsNow();
        due.finish();
    }

    /** Twenty CORDS, twenty PICKS: a COLOUR on the slope alone. */
    private static DrawLooms slope() {
        DrawLooms x = new DrawLooms();
        x.paper(20, 20);
        for (int c = 0; c < 20; c++) {
            x.square(c, c, 1 + c % 3);
        }
        return x;
    }

    private static void leastAndGreatestFaults() {
        due.about("promise 16: CORDS and PICKS from 0 to the last one");
        DrawLooms x = slope();
        int[][] right = {{1, 0, 0}, {1, 19, 0}, {2, 0, 0}, {2, 19, 0}, {3, 0, 19}, {3, 19, 0}};
        for (int[] f : right) {
            due.is("fault", x.fault(f[0], f[1], f[2]), 1);
        }
        refusals(x, 0, 0, 0, 0, 0, 0);
        int[][] wrong = {{1, 20, 0}, {1, -1, 0}, {2, 20, 0}, {2, -1, 0}, {3, 20, 0}, {3, 0, 20},
            {3, -1, 0}, {3, 0, -1}};
        for (int[] f : wrong) {
            due.is("fault", x.fault(f[0], f[1], f[2]), -1);
        }
        refusals(x, wrong.length, 0, 0, 0, 0, 0);
        x = drawn("2");
        due.is("the one CORD", x.fault(1, 0, 0), 1);
        due.is("the one PICK", x.fault(2, 0, 0), 1);
        due.is("one CORD is not crossed", x.fault(3, 0, 0), -1);
        due.is("one CORD is not crossed", x.fault(3, 0, 1), -1);
    }

    private static void secondCountsForCrossedAlone() {
        due.about("promise 16: b counts nothing but of 3; a and b are one");
        DrawLooms x = drawn("01", "10");
        for (int b : new int[] {LOW, -1, 0, 1, 2, HIGH}) {
            due.is("BROKEN", x.fault(1, 1, b), 1);
            due.is("SKIPPED", x.fault(2, 1, b), 1);
        }
        due.is("CROSSED", x.fault(3, 1, 2), -1);
        due.is("CROSSED", x.fault(3, 1, -1), -1);
        due.is("CROSSED with itself", x.fault(3, 1, 1), -1);
        due.is("CROSSED with itself", x.fault(3, 0, 0), -1);
        due.is("CROSSED", x.fault(3, 1, 0), 1);
        refusals(x, 4, 0, 0, 0, 0, 0);
    }

    private static void inPlaceOfTheOneOfThatKind() {
        due.about("promise 16: in place of the one of that KIND");
        DrawLooms x = drawn("123", "321");
        for (int kind = 1; kind <= 3; kind++) {
            x.clear();
            x.fault(kind, 0, 1);
            due.is("told again", x.fault(kind, 1, 2), 1);
            due.is("one of KIND " + kind, x.count(8), 1);
            x.weave();
            if (kind == 1) {
                isCloth(x, "103", "301");
            } else if (kind == 2) {
                isCloth(x, "123", "000");
            } else {
                isCloth(x, "132", "312");
            }
        }
        x.fault(1, 0, 0);
        x.fault(2, 0, 0);
        due.is("one of each KIND", x.count(8), 3);
    }

    private static void cordsAndPicksAsTheyAreNow() {
        due.about("promise 16: CORDS, PICKS as they are now");
        DrawLooms x = drawn("010", "010");
        due.is("no third CORD", x.fault(1, 2, 0), -1);
        due.is("no third PICK", x.fault(2, 2, 0), -1);
        x.square(2, 0, 3);
        due.is("a third CORD", x.fault(1, 2, 0), 1);
        due.is("a third CORD", x.fault(3, 0, 2), 1);
        x.paper(3, 3);
        due.is("a third PICK", x.fault(2, 2, 0), 1);
        due.is("no second CORD", x.fault(1, 1, 0), -1);
        due.is("no second CORD", x.fault(3, 0, 1), -1);
        due.is("told still", x.count(8), 3);
    }

    private static void refusedFaultLeavesTheOther() {
        due.about("promise 16: a refused FAULT is not told");
        DrawLooms x = drawn("12", "30");
        due.is("BROKEN", x.fault(1, 2, 0), -1);
        due.is("SKIPPED", x.fault(2, 2, 0), -1);
        due.is("CROSSED", x.fault(3, 0, 0), -1);
        due.is("none", x.count(8), 0);
        x.fault(1, 0, 0);
        due.is("BROKEN", x.fault(1, 2, 0), -1);
        due.is("KIND", x.fault(4, 1, 0), -2);
        due.is("the first one still", x.weave(), 2);
        isCloth(x, "02", "00");
    }

    private static void clearTellsHowMany() {
        due.about("promise 17: how many there were");
        DrawLooms x = drawn("12", "30");
        due.is("none", x.clear(), 0);
        for (int kinds = 1; kinds <= 3; kinds++) {
            for (int kind = 1; kind <= kinds; kind++) {
                x.fault(kind, 0, 1);
            }
            due.is("told", x.count(8), kinds);
            due.is("clear", x.clear(), kinds);
            due.is("none", x.count(8), 0);
            due.is("clear", x.clear(), 0);
            due.is("weave", x.weave(), 0);
        }
        due.is("a cloth is left", x.cloth(0, 0), 1);
        x.fault(1, 0, 0);
        x.weave();
        x.clear();
        due.is("the cloth is as it was woven", x.cloth(0, 0), 0);
    }

    private static void broken() {
        due.about("promise 18: BROKEN: wherever one of its columns would show a COLOUR above 0, it shows 0");
        DrawLooms x = drawn("1021", "2012", "3003");
        x.fault(1, 0, 0);
        due.is("six squares above 0", x.weave(), 6);
        isCloth(x, "0020", "0010", "0000");
        x.fault(1, 1, 0);
        due.is("none above 0", x.weave(), 0);
        x.fault(1, 2, 0);
        due.is("two above 0", x.weave(), 2);
        isCloth(x, "1001", "2002", "3003");
        x = drawn("3");
        x.fault(1, 0, 0);
        due.is("the one square", x.weave(), 1);
        isCloth(x, "0");
    }

    private static void skipped() {
        due.about("promise 18: SKIPPED: the next ones come one row ahead, the last row is 0");
        DrawLooms x = drawn("11", "22", "33");
        x.fault(2, 0, 0);
        due.is("first", x.weave(), 6);
        isCloth(x, "22", "33", "00");
        x.fault(2, 1, 0);
        due.is("second", x.weave(), 4);
        isCloth(x, "11", "33", "00");
        x.fault(2, 2, 0);
        due.is("last", x.weave(), 2);
        isCloth(x, "11", "22", "00");
        x = drawn("333");
        x.fault(2, 0, 0);
        due.is("the one PICK", x.weave(), 3);
        isCloth(x, "000");
        x = slope();
        x.fault(2, 19, 0);
        due.is("the twentieth", x.weave(), 1);
        due.is("its row is 0", x.cloth(19, 19), 0);
        due.is("the row ahead of it", x.cloth(18, 18), 1);
    }

    private static void crossed() {
        due.about("promise 18: CROSSED: columns of the one show what the first column of the other shows");
        DrawLooms x = drawn("10210", "30020");
        due.is("cords", x.cords(), 4);
        x.fault(3, 0, 1);
        due.is("a column with two", x.weave(), 3 + 3);
        isCloth(x, "01211", "03023");
        x.clear();
        x.fault(3, 1, 0);
        due.is("told about", x.weave(), 6);
        isCloth(x, "01211", "03023");
        x.fault(3, 3, 2);
        due.is("others stay", x.weave(), 4);
        isCloth(x, "10120", "30200");
        x = drawn("12");
        x.fault(3, 0, 1);
        due.is("two squares", x.weave(), 2);
        isCloth(x, "21");
    }

    private static void crossedAheadOfBroken() {
        due.about("promise 18: they work in this order: CROSSED, BROKEN");
        DrawLooms x = drawn("12", "30");
        x.fault(1, 0, 0);
        x.fault(3, 0, 1);
        due.is("weave", x.weave(), 4);
        isCloth(x, "01", "03");
        x.fault(1, 1, 0);
        due.is("weave", x.weave(), 3);
        isCloth(x, "20", "00");
    }

    private static void allThree() {
        due.about("promise 18: they work in this order: CROSSED, BROKEN, SKIPPED");
        DrawLooms x = drawn("123", "231", "302");
        x.fault(2, 1, 0);
        x.fault(1, 1, 0);
        x.fault(3, 2, 1);
        due.is("weave", x.weave(), 7);
        isCloth(x, "102", "300", "000");
        isDrawn(x, "123", "231", "302");
    }

    private static void gone() {
        due.about("promise 18: FAULTS whose CORD or PICK there is no more do nothing");
        DrawLooms x = drawn("123", "231", "302");
        x.fault(1, 2, 0);
        x.fault(2, 2, 0);
        x.fault(3, 0, 2);
        draw(x, "12", "31");
        due.is("none of them", x.weave(), 0);
        isCloth(x, "12", "31");
        due.is("told still", x.count(8), 3);
        draw(x, "11", "22", "33");
        due.is("the PICK is there", x.weave(), 2);
        isCloth(x, "11", "22", "00");
        draw(x, "120");
        due.is("the CORDS are there", x.weave(), 1);
        isCloth(x, "020");
        x.clear();
        x.fault(3, 2, 1);
        draw(x, "1211", "3133");
        due.is("but one of the two CORDS", x.weave(), 0);
        isCloth(x, "1211", "3133");
        due.is("clear", x.clear(), 1);
    }

    private static void sizeWhenWoven() {
        due.about("promise 19: WIDE and HIGH as THE DESIGN had when it was woven (none at first)");
        DrawLooms x = new DrawLooms();
        due.is("none at first", x.cloth(0, 0), -3);
        due.is("none at first, ahead of no such square", x.cloth(20, -1), -3);
        x.weave();
        isCloth(x, "00000000", "00000000", "00000000", "00000000", "00000000", "00000000", "00000000", "00000000");
        draw(x, "12", "30", "21");
        due.is("of the first design", x.cloth(7, 7), 0);
        x.weave();
        isCloth(x, "12", "30", "21");
        x.paper(1, 1);
        isCloth(x, "12", "30", "21");
        due.is("left of it", x.cloth(-1, 0), -1);
        due.is("above it", x.cloth(0, -1), -1);
        x.weave();
        isCloth(x, "0");
        x.paper(3, 3);
        x.weave();
        isCloth(x, "000", "000", "000");
    }

    private static void wovenAnew() {
        due.about("promise 18: THE CLOTH is woven of THE DESIGN, whatever was seen");
        DrawLooms x = drawn("12", "30");
        x.weave();
        x.see(0, 0, 3);
        x.see(1, 1, 2);
        due.is("weave", x.weave(), 0);
        isCloth(x, "12", "30");
        x.square(0, 0, 0);
        due.is("the design alone", x.cloth(0, 0), 1);
        x.hang(0);
        due.is("as it was woven", x.cloth(0, 0), 1);
    }

    private static void seenOtherwise() {
        due.about("promise 20: what it was");
        DrawLooms x = drawn("12", "30", "21");
        due.is("no CLOTH", x.see(0, 0, 1), -3);
        due.is("no CLOTH ahead of no square", x.see(2, 0, 1), -3);
        due.is("no CLOTH ahead of no COLOUR", x.see(0, 0, 4), -3);
        x.weave();
        due.is("last square", x.see(1, 2, 3), 1);
        due.is("again", x.see(1, 2, 3), 3);
        due.is("again", x.see(1, 2, 0), 3);
        due.is("first square", x.see(0, 0, 0), 1);
        isCloth(x, "02", "30", "20");
        isDrawn(x, "12", "30", "21");
        x.paper(1, 1);
        due.is("squares of THE CLOTH, not of THE DESIGN", x.see(1, 2, 2), 0);
        x.weave();
        x.paper(2, 3);
        due.is("squares of THE CLOTH, not of THE DESIGN", x.see(1, 2, 2), -1);
    }

    private static void explainedByNone() {
        due.about("promise 21: 0 none; a, b -9 without");
        DrawLooms x = drawn("120", "301");
        x.weave();
        isExplained(x, 0, -9, -9);
        x.see(0, 0, 2);
        x.see(0, 0, 1);
        isExplained(x, 0, -9, -9);
        x.paper(1, 1);
        x.weave();
        x.fault(1, 0, 0);
        isExplained(x, 0, -9, -9);
        due.is("a FAULT that shows nothing", x.weave(), 0);
        isExplained(x, 0, -9, -9);
        refusals(x, 0, 0, 0, 0, 0, 0);
    }

    private static void explainedByBroken() {
        due.about("promise 21: 1 BROKEN; b -9 without");
        DrawLooms x = drawn("0121", "0313");
        x.weave();
        x.see(1, 0, 0);
        x.see(1, 1, 0);
        x.see(3, 0, 0);
        isExplained(x, -9, -9, -9);
        x.see(3, 1, 0);
        isExplained(x, 1, 1, -9);
        due.about("promise 21: BROKEN ahead of SKIPPED");
        x = drawn("11", "00");
        x.fault(2, 0, 0);
        x.weave();
        isExplained(x, 1, 0, -9);
        x = slope();
        x.fault(1, 19, 0);
        x.weave();
        isExplained(x, 1, 19, -9);
        x.clear();
        x.fault(2, 19, 0);
        x.weave();
        isExplained(x, 1, 19, -9);
    }

    private static void explainedBySkipped() {
        due.about("promise 21: 2 SKIPPED (the least PICK)");
        DrawLooms x = drawn("12", "12", "31", "31");
        int[] least = {0, 0, 2, 2};
        for (int pick = 0; pick < least.length; pick++) {
            x.fault(2, pick, 0);
            x.weave();
            isExplained(x, 2, least[pick], -9);
        }
        x = slope();
        x.fault(2, 18, 0);
        x.weave();
        isExplained(x, 2, 18, -9);
        x.fault(2, 0, 0);
        x.weave();
        isExplained(x, 2, 0, -9);
    }

    private static void explainedByCrossed() {
        due.about("promise 21: 3 CROSSED (the lesser CORD first)");
        DrawLooms x = drawn("0123", "3210");
        for (int a = 0; a < 4; a++) {
            for (int b = 0; b < 4; b++) {
                if (a != b) {
                    x.fault(3, a, b);
                    x.weave();
                    isExplained(x, 3, Math.min(a, b), Math.max(a, b));
                }
            }
        }
        x = slope();
        x.fault(3, 19, 18);
        x.weave();
        isExplained(x, 3, 18, 19);
        x = drawn("0101");
        x.weave();
        x.see(0, 0, 1);
        x.see(1, 0, 0);
        isExplained(x, -9, -9, -9);
        x.see(2, 0, 1);
        x.see(3, 0, 0);
        isExplained(x, 3, 0, 1);
    }

    private static void explainedByNoSuch() {
        due.about("promise 21: -9 no such one");
        DrawLooms x = drawn("123", "231", "302");
        x.fault(1, 0, 0);
        x.fault(2, 0, 0);
        x.weave();
        isExplained(x, -9, -9, -9);
        x.clear();
        for (int kind = 1; kind <= 3; kind++) {
            x.fault(kind, 0, 1);
            x.weave();
            isExplained(x, kind, 0, kind == 3 ? 1 : -9);
            x.see(2, 0, 0);
            isExplained(x, -9, -9, -9);
            x.clear();
        }
        x = drawn("0");
        x.weave();
        x.see(0, 0, 1);
        isExplained(x, -9, -9, -9);
        refusals(x, 0, 0, 0, 0, 0, 0);
    }

    private static void explainedByDesignAsItIsNow() {
        due.about("promise 21: by THE DESIGN as it is now (of the same WIDE and HIGH)");
        DrawLooms x = drawn("12", "30");
        x.weave();
        x.square(1, 1, 2);
        isExplained(x, -9, -9, -9);
        draw(x, "21", "03");
        isExplained(x, 3, 0, 1);
        x.paper(2, 3);
        due.is("another HIGH", x.explained(0), -3);
        x.paper(3, 2);
        due.is("another WIDE", x.explained(0), -3);
        draw(x, "12", "30");
        isExplained(x, 0, -9, -9);
        due.is("told FAULTS count nothing", x.fault(1, 0, 0), 1);
        isExplained(x, 0, -9, -9);
    }
}
