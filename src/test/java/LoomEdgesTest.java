/** Edges that the document names of orders, laws and silk: a test for each sentence. */
public final class LoomEdgesTest extends Bench {
    private LoomEdgesTest() { }

    public static void main(String[] args) {
        firstValues();
        speedAndTie();
        leastAndGreatestOrders();
        twelveOrders();
        ellsBySpeedCutUp();
        tieOfAnotherLot();
        lateIsBehindDue();
        bestOfNoneAndOne();
        bestOfSeven();
        bestOfTwelve();
        bestCountsNoDayAhead();
        bestFirstByNumbers();
        bestFromNowOn();
        bestTies();
        placesOfBest();
        workUpToTheLastDay();
        daysUpToTheLastDay();
        orderOfWovenAndOpen();
        leastAndGreatestLaws();
        twentyLaws();
        lawInForce();
        lawsOfOneDay();
        paidOfTheDayDone();
        dryIsCut();
        leastAndGreatestSilk();
        wasteIsCutEachTime();
        wasteOfTheDayHome();
        owedBelowNought();
        accountsApart();
        due.finish();
    }

    /** A loom that weaves an ell a day and ties nothing. */
    private static DrawLooms plain() {
        DrawLooms x = new DrawLooms();
        x.set(0, 1);
        x.set(1, 0);
        return x;
    }

    private static void firstValues() {
        due.about("promise 1: SPEED 2, TIE 3, DAY 0, no LOT at first");
        for (int lot = 0; lot <= 5; lot++) {
            DrawLooms x = new DrawLooms();
            due.is("DAY", x.count(2), 0);
            due.is("LOT", x.count(7), -9);
            due.is("number", x.order(2, lot, 0), 0);
            due.is("a TIE, for no LOT is on THE LOOM", x.best(), 4);
            due.is("LATE", x.work(0), 4);
            due.is("LOT", x.count(7), lot);
        }
        DrawLooms x = new DrawLooms();
        due.is("SPEED", x.set(0, 2), 2);
        due.is("TIE", x.set(1, 3), 3);
    }

    private static void speedAndTie() {
        due.about("promise 22: SPEED 1 .. 20, TIE 0 .. 20: what it was");
        DrawLooms x = new DrawLooms();
        int speed = 2;
        int tie = 3;
        for (int v : new int[] {1, 20, 19, 1, 2, 20}) {
            due.is("set(0, " + v + ")", x.set(0, v), speed);
            due.is("set(1, " + (v - 1) + ")", x.set(1, v - 1), tie);
            speed = v;
            tie = v - 1;
        }
        due.is("TIE 20", x.set(1, 20), 19);
        due.is("SPEED 0", x.set(0, 0), -4);
        due.is("SPEED 21", x.set(0, 21), -6);
        due.is("TIE -1", x.set(1, -1), -4);
        due.is("TIE 21", x.set(1, 21), -6);
        due.is("as it was", x.set(0, 5), 20);
        due.is("as it was", x.set(1, 0), 20);
        refusals(x, 0, 0, 0, 2, 0, 2);
    }

    private static void leastAndGreatestOrders() {
        due.about("promise 23: ELLS 1 .. 99, a LOT 0 .. 5, a DUE 0 .. 2000");
        DrawLooms x = new DrawLooms();
        int[][] right = {{1, 0, 0}, {99, 0, 0}, {1, 5, 0}, {1, 0, 2000}, {99, 5, 2000}};
        for (int i = 0; i < right.length; i++) {
            due.is("order", x.order(right[i][0], right[i][1], right[i][2]), i);
            for (int what = 0; what < 3; what++) {
                due.is("orderOf(" + i + ", " + what + ")", x.orderOf(i, what), right[i][what]);
            }
        }
        refusals(x, 0, 0, 0, 0, 0, 0);
        int[][] wrong = {{0, 0, 0, -4}, {100, 0, 0, -6}, {1, -1, 0, -4}, {1, 6, 0, -6}, {1, 0, -1, -4},
            {1, 0, 2001, -6}};
        for (int[] w : wrong) {
            due.is("order", x.order(w[0], w[1], w[2]), w[3]);
        }
        due.is("ORDERS", x.count(3), right.length);
        refusals(x, 0, 0, 0, 3, 0, 3);
    }

    private static void twelveOrders() {
        due.about("promise 23: numbers from 0 on (12 at most)");
        DrawLooms x = plain();
        for (int i = 0; i < 12; i++) {
            due.is("order", x.order(1, 0, 2000), i);
            due.is("ORDERS", x.count(3), i + 1);
        }
        due.is("a thirteenth one", x.order(1, 0, 2000), -6);
        for (int i = 0; i < 12; i++) {
            due.is("open ones", x.count(4), 12 - i);
            due.is("work", x.work(i), 0);
        }
        due.is("ORDERS", x.count(3), 12);
        due.is("open ones", x.count(4), 0);
        due.is("woven ones keep their numbers", x.order(1, 0, 2000), -6);
        refusals(x, 0, 0, 0, 0, 0, 2);
    }

    private static void ellsBySpeedCutUp() {
        due.about("promise 26: ELLS by SPEED DAYS, cut up");
        int[][] takes = {{1, 1, 1}, {99, 1, 99}, {1, 20, 1}, {19, 20, 1}, {20, 20, 1}, {21, 20, 2}, {99, 20, 5},
            {99, 2, 50}, {98, 2, 49}, {2, 3, 1}, {3, 3, 1}, {4, 3, 2}};
        for (int[] t : takes) {
            DrawLooms x = plain();
            x.set(0, t[1]);
            x.order(t[0], 0, 0);
            due.is(t[0] + " by " + t[1], x.best(), t[2]);
            due.is(t[0] + " by " + t[1], x.work(0), t[2]);
            due.is("DAY", x.count(2), t[2]);
        }
    }

    private static void tieOfAnotherLot() {
        due.about("promise 26: TIE DAYS ahead if its LOT is not that which was woven ahead of it");
        DrawLooms x = new DrawLooms();
        x.set(1, 20);
        for (int lot : new int[] {0, 0, 5, 0, 5}) {
            x.order(2, lot, 0);
        }
        int[] done = {21, 22, 43, 64, 85};
        for (int i = 0; i < done.length; i++) {
            due.is("LATE", x.work(i), done[i]);
        }
        x.order(2, 5, 0);
        x.order(2, 5, 0);
        due.is("days", x.days(5), 90);
        due.is("the LOT stays while DAYS pass", x.work(5), 91);
        x.set(1, 0);
        due.is("TIE 0", x.work(6), 92);
        x.order(2, 1, 0);
        due.is("TIE 0 of another LOT", x.work(7), 93);
        due.is("LOT", x.count(7), 1);
    }

    private static void lateIsBehindDue() {
        due.about("promise 26: LATE: how many DAYS behind DUE it is done");
        for (int[] l : new int[][] {{0, 5}, {4, 1}, {5, 0}, {6, 0}, {2000, 0}}) {
            DrawLooms x = plain();
            x.order(5, 0, l[0]);
            due.is("best", x.best(), l[1]);
            due.is("DUE " + l[0], x.work(0), l[1]);
        }
    }

    private static void bestOfNoneAndOne() {
        due.about("promise 24: 0 without ORDERS");
        DrawLooms x = plain();
        isBest(x, 0);
        x.order(3, 4, 1);
        isBest(x, 2, 0);
        x.work(0);
        isBest(x, 0);
        refusals(x, 0, 0, 0, 0, 0, 0);
    }

    private static void bestOfSeven() {
        due.about("promise 24: -3 more than 7 are open");
        DrawLooms x = plain();
        for (int i = 0; i < 7; i++) {
            x.order(1, 0, 0);
        }
        isBest(x, 28, 0, 1, 2, 3, 4, 5, 6);
        x.order(1, 0, 0);
        due.is("eight", x.best(), -3);
        due.is("eight", x.bestAt(0), -3);
        due.is("eight, no such place", x.bestAt(8), -3);
        due.is("eight, no such place", x.bestAt(-1), -3);
        x.work(3);
        isBest(x, 2 + 3 + 4 + 5 + 6 + 7 + 8, 0, 1, 2, 4, 5, 6, 7);
        refusals(x, 0, 0, 4, 0, 0, 0);
    }

    private static void bestOfTwelve() {
        due.about("promises 23, 24: 12 ORDERS, 7 at most of them open");
        DrawLooms x = plain();
        for (int i = 0; i < 12; i++) {
            x.order(1, 0, 0);
        }
        for (int i = 0; i < 12; i++) {
            int open = 12 - i;
            due.is(open + " open", x.best(), open > 7 ? -3 : open * i + open * (open + 1) / 2);
            due.is(open + " open, the last one", x.bestAt(open - 1), open > 7 ? -3 : 11);
            due.is("work", x.work(i), i + 1);
        }
        isBest(x, 0);
        refusals(x, 0, 0, 10, 0, 0, 0);
    }

    private static void bestCountsNoDayAhead() {
        due.about("promise 24: LATE together, no DAY ahead of DUE makes up for it");
        DrawLooms x = plain();
        x.order(10, 0, 2000);
        x.order(3, 0, 1);
        isBest(x, 2, 1, 0);
        x.order(2, 0, 1);
        isBest(x, 1 + 4, 2, 1, 0);
    }

    private static void bestFirstByNumbers() {
        due.about("promise 24: of these the first by numbers");
        DrawLooms x = plain();
        for (int i = 0; i < 4; i++) {
            x.order(2, 0, 3);
        }
        isBest(x, 1 + 3 + 5, 0, 1, 2, 3);
        x = plain();
        x.order(3, 0, 2000);
        x.order(1, 1, 2000);
        x.order(2, 2, 2000);
        isBest(x, 0, 0, 1, 2);
        x = plain();
        x.order(5, 0, 2000);
        x.order(4, 0, 2000);
        x.order(1, 0, 5);
        isBest(x, 0, 1, 2, 0);
    }

    private static void bestFromNowOn() {
        due.about("promise 24: from now on");
        DrawLooms x = plain();
        x.order(2, 0, 4);
        x.order(3, 0, 4);
        isBest(x, 1, 0, 1);
        due.is("days", x.days(2), 2);
        isBest(x, 0 + 3, 0, 1);
        due.is("best weaves nothing", x.count(2), 2);
        x.set(0, 3);
        isBest(x, 0, 0, 1);
        x.order(99, 0, 2);
        isBest(x, 33 + 2, 0, 1, 2);
        due.is("work", x.work(2), 33);
        isBest(x, 32 + 33, 0, 1);
    }

    private static void bestTies() {
        due.about("promise 24: a TIE of the LOT that is on THE LOOM, then of the one woven ahead");
        DrawLooms x = plain();
        x.set(1, 10);
        x.order(1, 3, 0);
        x.work(0);
        x.order(1, 2, 0);
        x.order(1, 3, 0);
        x.order(1, 2, 0);
        isBest(x, 12 + 23 + 24, 2, 1, 3);
        x.set(1, 0);
        isBest(x, 12 + 13 + 14, 1, 2, 3);
    }

    private static void placesOfBest() {
        due.about("promise 25: -9 there are not so many");
        DrawLooms x = plain();
        for (int place : new int[] {LOW, -1, 0, 1, 7, HIGH}) {
            due.is("of none", x.bestAt(place), -9);
        }
        x.order(1, 0, 0);
        x.order(1, 0, 0);
        due.is("the last one", x.bestAt(1), 1);
        for (int place : new int[] {LOW, -1, 2, 3, 7, HIGH}) {
            due.is("of two", x.bestAt(place), -9);
        }
        for (int i = 2; i < 7; i++) {
            x.order(1, 0, 0);
        }
        due.is("the last one", x.bestAt(6), 6);
        due.is("of seven", x.bestAt(7), -9);
        refusals(x, 0, 0, 0, 0, 0, 0);
    }

    private static void workUpToTheLastDay() {
        due.about("promise 26: -6 DAY would be above 3000");
        DrawLooms x = plain();
        x.order(2, 3, 2000);
        x.order(1, 4, 2000);
        x.days(2999);
        due.is("3001", x.work(0), -6);
        due.is("DAY", x.count(2), 2999);
        due.is("LOT", x.count(7), -9);
        due.is("open ones", x.count(4), 2);
        x.set(1, 1);
        due.is("3001 with a TIE", x.work(1), -6);
        x.set(1, 0);
        due.is("3000", x.work(1), 1000);
        due.is("DAY", x.count(2), 3000);
        due.is("done", x.orderOf(1, 3), 3000);
        due.is("3002", x.work(0), -6);
        due.is("woven is told ahead of the DAY", x.work(1), -3);
        due.is("no such one is told ahead of the DAY", x.work(2), -1);
        due.is("BEST ROW knows no last DAY", x.best(), 1002);
        refusals(x, 1, 0, 1, 0, 0, 3);
    }

    private static void daysUpToTheLastDay() {
        due.about("promise 27: -4 below 1; -6 above 3000");
        DrawLooms x = new DrawLooms();
        due.is("3001", x.days(3001), -6);
        due.is("none", x.days(0), -4);
        due.is("DAY", x.count(2), 0);
        due.is("one", x.days(1), 1);
        due.is("3001", x.days(3000), -6);
        due.is("3000", x.days(2999), 3000);
        due.is("3001", x.days(1), -6);
        due.is("below is told first", x.days(0), -4);
        due.is("all at once", new DrawLooms().days(3000), 3000);
        refusals(x, 0, 0, 0, 2, 0, 3);
    }

    private static void orderOfWovenAndOpen() {
        due.about("promise 37: the DAY on which it was done (-9)");
        DrawLooms x = plain();
        x.order(7, 5, 9);
        x.order(8, 4, 10);
        due.is("open", x.orderOf(0, 3), -9);
        x.work(1);
        due.is("open", x.orderOf(0, 3), -9);
        due.is("done", x.orderOf(1, 3), 8);
        x.days(100);
        due.is("done then", x.orderOf(1, 3), 8);
        x.work(0);
        due.is("done", x.orderOf(0, 3), 115);
        int[][] parts = {{7, 5, 9}, {8, 4, 10}};
        for (int what = 0; what < 3; what++) {
            due.is("woven ones keep what they are", x.orderOf(0, what), parts[0][what]);
            due.is("woven ones keep what they are", x.orderOf(1, what), parts[1][what]);
        }
        refusals(x, 0, 0, 0, 0, 0, 0);
    }

    private static void leastAndGreatestLaws() {
        due.about("promise 28: WASTE 0 .. 200, a PRICE 0 .. 999, from a DAY on (now or later)");
        DrawLooms x = new DrawLooms();
        x.days(10);
        int[][] right = {{0, 0, 10}, {200, 0, 10}, {0, 999, 10}, {0, 0, 3000}, {200, 999, 3000}};
        for (int i = 0; i < right.length; i++) {
            due.is("law", x.law(right[i][0], right[i][1], right[i][2]), i);
        }
        int[][] wrong = {{-1, 0, 10, -4}, {201, 0, 10, -6}, {0, -1, 10, -4}, {0, 1000, 10, -6}, {0, 0, 9, -4},
            {0, 0, 3001, -6}, {0, 0, 0, -4}};
        for (int[] w : wrong) {
            due.is("law", x.law(w[0], w[1], w[2]), w[3]);
        }
        due.is("LAWS", x.count(5), right.length);
        x.days(2990);
        due.is("the last DAY", x.law(1, 1, 3000), right.length);
        refusals(x, 0, 0, 0, 4, 0, 3);
    }

    private static void twentyLaws() {
        due.about("promise 28: numbers from 0 on (20 at most)");
        DrawLooms x = new DrawLooms();
        for (int i = 0; i < 20; i++) {
            due.is("law", x.law(10 * i, 0, 0), i);
            due.is("LAWS", x.count(5), i + 1);
        }
        due.is("a twenty-first one", x.law(200, 999, 0), -6);
        due.is("below is told first", x.law(-1, 0, 0), -4);
        due.is("LAWS", x.count(5), 20);
        x.silk(0, true, 1000, 0);
        due.is("the last one is in force", x.account(0, 2), 190);
        refusals(x, 0, 0, 0, 1, 0, 1);
    }

    private static void isWasteNow(DrawLooms x, int waste) {
        int was = x.account(2, 2);
        x.silk(2, true, 1000, 0);
        due.is("WASTE on DAY " + x.count(2), x.account(2, 2) - was, waste);
    }

    private static void lawInForce() {
        due.about("promise 28: in force on a DAY is the one with the latest DAY not behind it; without one 0");
        DrawLooms x = new DrawLooms();
        isWasteNow(x, 0);
        x.law(30, 0, 3);
        x.law(10, 0, 1);
        x.law(20, 0, 2);
        isWasteNow(x, 0);
        for (int day = 1; day <= 3; day++) {
            x.days(1);
            isWasteNow(x, 10 * day);
        }
        x.law(0, 0, 5);
        x.days(1);
        isWasteNow(x, 30);
        x.days(1);
        isWasteNow(x, 0);
        x.law(200, 0, 3000);
        x.days(2994);
        isWasteNow(x, 0);
        x.days(1);
        isWasteNow(x, 200);
    }

    private static void lawsOfOneDay() {
        due.about("promise 28: of several the greatest number");
        DrawLooms x = new DrawLooms();
        x.law(50, 5, 4);
        x.law(40, 4, 4);
        x.law(60, 6, 3);
        x.days(3);
        isWasteNow(x, 60);
        x.days(1);
        isWasteNow(x, 40);
        x.law(45, 9, 4);
        isWasteNow(x, 45);
        x.set(1, 0);
        x.order(2, 0, 0);
        x.work(0);
        due.is("PAID", x.count(6), 18);
    }

    private static void paidOfTheDayDone() {
        due.about("promise 38: PAID: by woven ORDERS, ELLS times the PRICE of the DAY on which each is done");
        DrawLooms x = plain();
        x.law(0, 999, 4);
        x.law(0, 1, 6);
        for (int i = 0; i < 4; i++) {
            x.order(i == 2 ? 1 : 2, 0, 0);
        }
        due.is("open ones are not PAID", x.count(6), 0);
        x.days(1);
        x.work(0);
        due.is("done on DAY 3, without a LAW", x.count(6), 0);
        x.work(1);
        due.is("done on DAY 5, begun on DAY 3", x.count(6), 1998);
        x.work(2);
        due.is("done on DAY 6", x.count(6), 1999);
        x.law(0, 500, 7);
        due.is("a later LAW", x.count(6), 1999);
        x.days(1000);
        due.is("later DAYS", x.count(6), 1999);
        x.work(3);
        due.is("done under it", x.count(6), 2999);
        x = plain();
        x.set(0, 20);
        x.law(0, 999, 0);
        for (int i = 0; i < 12; i++) {
            x.order(99, 0, 0);
            x.work(i);
        }
        due.is("the greatest", x.count(6), 12 * 99 * 999);
    }

    private static void dryIsCut() {
        due.about("promise 29: of g grains g times 100 by (100 and w), cut, are DRY");
        int[][] dry = {{1, 0, 1}, {1, 1, 0}, {1, 40, 0}, {2, 40, 1}, {140, 40, 100}, {139, 40, 99}, {101, 1, 100},
            {100, 1, 99}, {100000, 0, 100000}, {100000, 1, 99009}, {100000, 40, 71428}, {99999, 39, 71941}};
        DrawLooms x = new DrawLooms();
        int out = 0;
        for (int[] d : dry) {
            due.is(d[0] + " WET by " + d[1], x.silk(0, false, d[0], d[1]), d[2]);
            due.is(d[0] + " WET by " + d[1], x.silk(1, true, d[0], d[1]), d[2]);
            out += d[2];
            isAccount(x, 0, out, 0, 0, out);
            isAccount(x, 1, 0, out, 0, -out);
        }
    }

    private static void leastAndGreatestSilk() {
        due.about("promise 29: ACCOUNTS 0 .. 5, grains 1 .. 100000, wet 0 .. 40");
        DrawLooms x = new DrawLooms();
        due.is("least", x.silk(0, false, 1, 0), 1);
        due.is("greatest", x.silk(5, true, 100000, 40), 71428);
        int[][] wrong = {{-1, 1, 0, -1}, {6, 1, 0, -1}, {0, 0, 0, -4}, {0, 100001, 0, -6}, {0, 1, -1, -4},
            {0, 1, 41, -6}};
        for (int[] w : wrong) {
            due.is("silk out", x.silk(w[0], false, w[1], w[2]), w[3]);
            due.is("silk home", x.silk(w[0], true, w[1], w[2]), w[3]);
        }
        isAccount(x, 0, 1, 0, 0, 1);
        isAccount(x, 5, 0, 71428, 0, -71428);
        refusals(x, 4, 0, 0, 4, 0, 4);
    }

    private static void wasteIsCutEachTime() {
        due.about("promise 30: of its DRY so many thousandths, cut, are more than it");
        DrawLooms x = new DrawLooms();
        x.law(50, 0, 0);
        x.silk(0, true, 19, 0);
        x.silk(0, true, 19, 0);
        isAccount(x, 0, 0, 38, 0, -38);
        x.silk(0, true, 20, 0);
        isAccount(x, 0, 0, 58, 1, -59);
        x.silk(0, true, 39, 0);
        isAccount(x, 0, 0, 97, 2, -99);
        x.silk(1, true, 21, 40);
        isAccount(x, 1, 0, 15, 0, -15);
        x.silk(2, false, 1000, 0);
        isAccount(x, 2, 1000, 0, 0, 1000);
        x.law(200, 0, 0);
        x.silk(3, true, 100000, 0);
        isAccount(x, 3, 0, 100000, 20000, -120000);
        x.law(0, 0, 0);
        x.silk(4, true, 100000, 0);
        isAccount(x, 4, 0, 100000, 0, -100000);
    }

    private static void wasteOfTheDayHome() {
        due.about("promise 30: by the LAW of the DAY on which it comes HOME");
        DrawLooms x = new DrawLooms();
        x.silk(0, true, 1000, 0);
        x.law(100, 0, 0);
        isAccount(x, 0, 0, 1000, 0, -1000);
        x.silk(0, true, 1000, 0);
        isAccount(x, 0, 0, 2000, 100, -2100);
        x.law(10, 0, 1);
        x.silk(0, true, 1000, 0);
        isAccount(x, 0, 0, 3000, 200, -3200);
        x.days(1);
        isAccount(x, 0, 0, 3000, 200, -3200);
        x.silk(0, true, 1000, 0);
        isAccount(x, 0, 0, 4000, 210, -4210);
    }

    private static void owedBelowNought() {
        due.about("promise 30: OWED may be below 0, and is no REFUSAL then; REFUSALS are 2000000000 less them");
        DrawLooms x = new DrawLooms();
        for (int owed = -1; owed >= -10; owed--) {
            x.silk(4, true, 1, 0);
            due.is("OWED", x.account(4, 3), owed);
        }
        refusals(x, 0, 0, 0, 0, 0, 0);
        due.is("no such ACCOUNT", x.account(6, 3), 2000000001);
        due.is("no such ACCOUNT", x.account(-1, 3), 2000000001);
        due.is("no such what", x.account(4, 4), 2000000002);
        due.is("no such what", x.account(4, -1), 2000000002);
        refusals(x, 2, 2, 0, 0, 0, 0);
        x.silk(4, false, 10, 0);
        due.is("none OWED", x.account(4, 3), 0);
    }

    private static void accountsApart() {
        due.about("promise 30: an ACCOUNT (0 .. 5, one each for weavers)");
        DrawLooms x = new DrawLooms();
        x.law(100, 0, 0);
        for (int account = 0; account < 6; account++) {
            due.is("out", x.silk(account, false, 100 * (account + 1), 0), 100 * (account + 1));
            due.is("home", x.silk(account, true, 10 * (account + 1), 0), 10 * (account + 1));
        }
        for (int n = 1; n <= 6; n++) {
            isAccount(x, n - 1, 100 * n, 10 * n, n, 89 * n);
        }
    }
}
