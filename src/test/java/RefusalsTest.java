import java.util.ArrayList;
import java.util.List;

/**
 * Each refusal that a promise names, by itself and together with the ones that are told behind it. A refused
 * call answers its number, is counted once, and leaves all as it is: of two objects with the same past, one
 * makes the refused call, and from then on both must answer alike.
 */
public final class RefusalsTest extends Bench {
    private static final String FAR_BELOW = "-2147483648";
    private static final String FAR_ABOVE = "2147483647";

    private RefusalsTest() { }

    public static void main(String[] args) {
        inOrdinary();
        inNew();
        inFull();
        unlikeWeave();
        due.finish();
    }

    /** Three CORDS, eight PULLS, DAY 4, BEAMS with two WARPS, CARDS and nothing. */
    private static DrawLooms ordinary() {
        DrawLooms x = drawn("0120", "3123", "1121");
        x.limit(2);
        x.fault(1, 1, 0);
        x.fault(2, 2, 0);
        x.fault(3, 0, 2);
        x.weave();
        x.see(0, 0, 3);
        x.set(0, 4);
        x.set(1, 2);
        x.order(9, 1, 20);
        x.order(5, 2, 0);
        x.order(7, 1, 9);
        x.law(50, 7, 0);
        x.law(100, 9, 30);
        due.is("work", x.work(1), 4);
        x.silk(0, false, 1000, 0);
        x.silk(0, true, 500, 10);
        x.warp(0, 500);
        x.warp(1, 20);
        x.cards(2);
        return x;
    }

    /** Twelve ORDERS of which eight are open, twenty LAWS, the last DAY, no empty BEAM. */
    private static DrawLooms full() {
        DrawLooms x = drawn("12", "30");
        x.set(0, 20);
        x.set(1, 0);
        for (int i = 0; i < 12; i++) {
            x.order(1 + i, i % 6, 2000);
        }
        for (int i = 0; i < 20; i++) {
            x.law(10 * i, 50 * i, 150 * i);
        }
        for (int i = 0; i < 4; i++) {
            due.is("work", x.work(2 * i), 0);
        }
        due.is("days", x.days(2996), 3000);
        for (int i = 0; i < 3; i++) {
            x.warp(i, 500);
        }
        x.cards(3);
        return x;
    }

    private static DrawLooms made(String past) {
        return past.equals("ordinary") ? ordinary() : past.equals("full") ? full() : new DrawLooms();
    }

    /** A call as in "cut(3, 0) -5": what is asked, and the refusal that is due. */
    private static void refused(String past, String promise, String... calls) {
        for (String call : calls) {
            int open = call.indexOf('(');
            int close = call.indexOf(')');
            String[] parts = call.substring(open + 1, close).split(", ");
            int[] a = new int[open + 1 == close ? 0 : parts.length];
            for (int i = 0; i < a.length; i++) {
                a[i] = Integer.parseInt(parts[i]);
            }
            due.about(promise + " (" + past + "): " + call);
            refused(past, call.substring(0, open), a, Integer.parseInt(call.substring(close + 2)));
        }
    }

    private static void refused(String past, String name, int[] a, int refusal) {
        DrawLooms other = made(past);
        DrawLooms x = made(past);
        refusals(x, 0, 0, 0, 0, 0, 0);
        due.is(name, Calls.answer(x, name, a), name.equals("account") ? 2000000000 - refusal : refusal);
        for (int number = 1; number <= 6; number++) {
            due.is("count(" + (10 + number) + ")", x.count(10 + number), number == -refusal ? 1 : 0);
        }
        List<Integer> want = seen(other);
        List<Integer> got = seen(x);
        due.is("as many answers as without the call", got.size(), want.size());
        for (int i = 0; i < Math.min(got.size(), want.size()); i++) {
            due.is("answer " + i + " behind it", got.get(i), want.get(i));
        }
    }

    /** Answers that tell all of the state; some calls change it, for not all can be asked otherwise. */
    private static List<Integer> seen(DrawLooms x) {
        List<Integer> seen = new ArrayList<>();
        for (int what = 0; what <= 8; what++) {
            seen.add(x.count(what));
        }
        int wide = x.count(0);
        int high = x.count(1);
        for (int y = 0; y < high; y++) {
            for (int c = 0; c < wide; c++) {
                seen.add(x.at(c, y));
                seen.add(x.cloth(c, y));
            }
            seen.add(x.mend(y));
            seen.add(x.floats(y, 0));
        }
        seen.add(x.limit(1));
        seen.add(x.explained(0));
        seen.add(x.weave());
        for (int y = 0; y < high; y++) {
            seen.add(x.cloth(0, y));
            seen.add(x.cloth(wide - 1, y));
        }
        for (int beam = 0; beam < 4; beam++) {
            for (int what = 0; what < 3; what++) {
                seen.add(x.beamOf(beam, what));
            }
            seen.add(x.hang(beam));
        }
        seen.add(x.at(0, 0));
        addLoom(seen, x);
        return seen;
    }

    private static void addLoom(List<Integer> seen, DrawLooms x) {
        for (int account = 0; account < 6; account++) {
            for (int what = 0; what < 4; what++) {
                seen.add(x.account(account, what));
            }
        }
        for (int order = 0; order < 12; order++) {
            for (int what = 0; what < 4; what++) {
                seen.add(x.orderOf(order, what));
            }
        }
        seen.add(x.best());
        for (int i = 0; i < 7; i++) {
            seen.add(x.bestAt(i));
        }
        for (int day = 0; day < 4; day++) {
            x.silk(3, true, 1000, 0);
            seen.add(x.account(3, 2));
            seen.add(x.days(10));
        }
        for (int order = 0; order < 12; order++) {
            seen.add(x.work(order));
        }
        seen.add(x.count(2));
        seen.add(x.count(6));
        seen.add(x.set(0, 1));
        seen.add(x.set(1, 0));
        seen.add(x.clear());
    }

    private static void inOrdinary() {
        String past = "ordinary";
        refused(past, "promise 2", "paper(0, 5) -4", "paper(5, 0) -4", "paper(-1, 5) -4", "paper(5, -1) -4",
            "paper(21, 5) -6", "paper(5, 21) -6", "paper(0, 21) -4", "paper(21, 0) -4",
            "paper(" + FAR_BELOW + ", " + FAR_ABOVE + ") -4", "paper(" + FAR_ABOVE + ", 1) -6");
        refused(past, "promise 3", "square(-1, 0, 1) -1", "square(4, 0, 1) -1", "square(0, -1, 1) -1",
            "square(0, 3, 1) -1", "square(1, 1, -1) -1", "square(1, 1, 4) -1", "square(" + FAR_ABOVE + ", 0, 1) -1",
            "square(0, " + FAR_BELOW + ", 1) -1", "square(1, 1, " + FAR_ABOVE + ") -1");
        refused(past, "promise 4", "fill(-1, 0, 1, 3) -1", "fill(4, 0, 1, 3) -1", "fill(0, -1, 1, 3) -1",
            "fill(0, 3, 1, 3) -1", "fill(0, 0, 1, -1) -1", "fill(0, 0, 1, 4) -1", "fill(0, 0, -1, 3) -4",
            "fill(0, 0, 5, 3) -6", "fill(4, 0, -1, 3) -1", "fill(0, 3, 5, 3) -1", "fill(0, 0, -1, 4) -1",
            "fill(0, 0, 5, -1) -1", "fill(3, 0, " + FAR_ABOVE + ", 3) -6", "fill(3, 0, " + FAR_BELOW + ", 3) -4",
            "fill(-1, 0, 0, 3) -1", "fill(0, 0, 0, 4) -1");
        refused(past, "promise 5", "at(-1, 0) -1", "at(4, 0) -1", "at(0, -1) -1", "at(0, 3) -1",
            "at(" + FAR_BELOW + ", 0) -1", "at(0, " + FAR_ABOVE + ") -1");
        refused(past, "promise 6", "span(-1) -2", "span(2) -2", "span(" + FAR_ABOVE + ") -2");
        refused(past, "promise 7", "mirror(-1) -2", "mirror(2) -2", "mirror(" + FAR_BELOW + ") -2");
        refused(past, "promise 9", "cord(-1) -1", "cord(4) -1", "cord(" + FAR_BELOW + ") -1");
        refused(past, "promise 10", "pull(-1, 0) -1", "pull(3, 0) -1", "pull(0, -1) -1", "pull(0, 4) -1");
        refused(past, "promise 12", "pullOf(-1, 0) -1", "pullOf(8, 0) -1", "pullOf(0, -1) -2", "pullOf(0, 2) -2",
            "pullOf(7, 2) -2", "pullOf(8, 2) -1", "pullOf(-1, -1) -1", "pullOf(" + FAR_ABOVE + ", 1) -1",
            "pullOf(" + FAR_BELOW + ", 1) -1");
        refused(past, "promise 13", "limit(0) -4", "limit(-1) -4", "limit(21) -6", "limit(" + FAR_ABOVE + ") -6");
        refused(past, "promise 14", "floats(-1, 0) -1", "floats(3, 0) -1", "floats(0, -1) -2", "floats(0, 2) -2",
            "floats(3, 2) -1", "floats(-1, -1) -1");
        refused(past, "promise 15", "mend(-1) -1", "mend(3) -1", "mend(" + FAR_ABOVE + ") -1");
        clothInOrdinary(past);
        loomInOrdinary(past);
        silkInOrdinary(past);
        beamsInOrdinary(past);
    }

    private static void clothInOrdinary(String past) {
        refused(past, "promise 16", "fault(0, 0, 1) -2", "fault(4, 0, 1) -2", "fault(-1, 0, 1) -2",
            "fault(0, -1, -1) -2", "fault(4, 9, 9) -2", "fault(1, -1, 0) -1", "fault(1, 3, 0) -1",
            "fault(2, -1, 0) -1", "fault(2, 3, 0) -1", "fault(3, -1, 0) -1", "fault(3, 3, 0) -1",
            "fault(3, 0, -1) -1", "fault(3, 0, 3) -1", "fault(3, 1, 1) -1", "fault(3, 3, 3) -1");
        refused(past, "promise 19", "cloth(-1, 0) -1", "cloth(4, 0) -1", "cloth(0, -1) -1", "cloth(0, 3) -1");
        refused(past, "promise 20", "see(-1, 0, 1) -1", "see(4, 0, 1) -1", "see(0, -1, 1) -1", "see(0, 3, 1) -1",
            "see(0, 0, -1) -1", "see(0, 0, 4) -1");
        refused(past, "promise 21", "explained(-1) -2", "explained(3) -2");
    }

    private static void loomInOrdinary(String past) {
        refused(past, "promise 22", "set(-1, 5) -2", "set(2, 5) -2", "set(2, -1) -2", "set(2, 21) -2",
            "set(0, 0) -4", "set(0, -1) -4", "set(0, 21) -6", "set(1, -1) -4", "set(1, 21) -6",
            "set(0, " + FAR_ABOVE + ") -6", "set(1, " + FAR_BELOW + ") -4");
        refused(past, "promise 23", "order(0, 1, 1) -4", "order(1, -1, 1) -4", "order(1, 1, -1) -4",
            "order(100, 1, 1) -6", "order(1, 6, 1) -6", "order(1, 1, 2001) -6", "order(100, -1, 1) -4",
            "order(1, 6, -1) -4", "order(0, 1, 2001) -4", "order(100, 6, -1) -4", "order(100, 6, 2001) -6");
        refused(past, "promise 26", "work(-1) -1", "work(3) -1", "work(1) -3", "work(" + FAR_ABOVE + ") -1");
        refused(past, "promise 27", "days(0) -4", "days(-1) -4", "days(2997) -6", "days(" + FAR_ABOVE + ") -6",
            "days(" + FAR_BELOW + ") -4");
        refused(past, "promise 28", "law(-1, 0, 4) -4", "law(0, -1, 4) -4", "law(0, 0, 3) -4", "law(0, 0, -1) -4",
            "law(201, 0, 4) -6", "law(0, 1000, 4) -6", "law(0, 0, 3001) -6", "law(201, -1, 4) -4",
            "law(0, 1000, 3) -4", "law(-1, 0, 3001) -4", "law(201, 1000, 3001) -6");
        refused(past, "promise 37", "orderOf(-1, 0) -1", "orderOf(3, 0) -1", "orderOf(0, -1) -2",
            "orderOf(0, 4) -2", "orderOf(3, 4) -1", "orderOf(-1, -1) -1");
    }

    /** The second argument of silk is 1 for HOME. */
    private static void silkInOrdinary(String past) {
        for (int home = 0; home <= 1; home++) {
            String way = ", " + home + ", ";
            refused(past, "promise 29", "silk(-1" + way + "1, 0) -1", "silk(6" + way + "1, 0) -1",
                "silk(0" + way + "0, 0) -4", "silk(0" + way + "-1, 0) -4", "silk(0" + way + "1, -1) -4",
                "silk(0" + way + "100001, 0) -6", "silk(0" + way + "1, 41) -6", "silk(6" + way + "0, 0) -1",
                "silk(-1" + way + "1, 41) -1", "silk(0" + way + "0, 41) -4", "silk(0" + way + "100001, -1) -4",
                "silk(0" + way + FAR_ABOVE + ", 40) -6", "silk(0" + way + "1, " + FAR_ABOVE + ") -6",
                "silk(0" + way + "1, -100) -4");
        }
        refused(past, "promise 30", "account(-1, 0) -1", "account(6, 0) -1", "account(0, -1) -2",
            "account(0, 4) -2", "account(6, 4) -1", "account(-1, -1) -1");
    }

    private static void beamsInOrdinary(String past) {
        refused(past, "promise 31", "warp(-1, 5) -1", "warp(4, 5) -1", "warp(0, 5) -3", "warp(2, 5) -3",
            "warp(3, 0) -4", "warp(3, -1) -4", "warp(3, 501) -6", "warp(4, 0) -1", "warp(-1, 501) -1",
            "warp(0, 0) -3", "warp(2, 501) -3");
        refused(past, "promise 32", "cards(-1) -1", "cards(4) -1", "cards(0) -3", "cards(2) -3");
        refused(past, "promise 33", "hang(-1) -1", "hang(4) -1", "hang(3) -5", "hang(0) -2", "hang(1) -2");
        refused(past, "promise 34", "cut(-1, 1) -1", "cut(4, 1) -1", "cut(3, 1) -5", "cut(2, 1) -2",
            "cut(1, 0) -4", "cut(1, -1) -4", "cut(1, 21) -6", "cut(0, 501) -6", "cut(4, 0) -1", "cut(-1, 501) -1",
            "cut(3, 0) -5", "cut(3, 501) -5", "cut(2, 0) -2", "cut(2, 501) -2", "cut(1, " + FAR_BELOW + ") -4",
            "cut(1, " + FAR_ABOVE + ") -6");
        refused(past, "promise 35", "join(-1, 0) -1", "join(4, 0) -1", "join(0, -1) -1", "join(0, 4) -1",
            "join(0, 0) -1", "join(2, 2) -1", "join(3, 3) -1", "join(4, 4) -1", "join(3, 0) -5", "join(0, 3) -5",
            "join(2, 3) -5", "join(3, 2) -5", "join(2, 0) -2", "join(0, 2) -2", "join(0, 1) -6", "join(1, 0) -6",
            "join(4, 3) -1", "join(2, -1) -1");
        refused(past, "promise 36", "beamOf(-1, 0) -1", "beamOf(4, 0) -1", "beamOf(0, -1) -2", "beamOf(0, 3) -2",
            "beamOf(4, 3) -1", "beamOf(-1, -1) -1");
    }

    private static void inNew() {
        String past = "new";
        refused(past, "promise 3", "square(8, 0, 1) -1", "square(0, 8, 1) -1");
        refused(past, "promise 4", "fill(0, 0, 9, 1) -6");
        refused(past, "promise 12", "pullOf(8, 0) -1");
        refused(past, "promise 16", "fault(1, 1, 0) -1", "fault(2, 8, 0) -1", "fault(3, 0, 0) -1",
            "fault(3, 0, 1) -1", "fault(3, 1, 0) -1");
        refused(past, "promise 19", "cloth(0, 0) -3", "cloth(8, 0) -3", "cloth(-1, -1) -3");
        refused(past, "promise 20", "see(0, 0, 0) -3", "see(8, 0, 0) -3", "see(0, 0, 4) -3");
        refused(past, "promise 21", "explained(0) -3", "explained(1) -3", "explained(2) -3", "explained(3) -2",
            "explained(-1) -2");
        refused(past, "promise 26", "work(0) -1");
        refused(past, "promise 37", "orderOf(0, 0) -1", "orderOf(0, 4) -1");
        refused(past, "promise 33", "hang(0) -5");
        refused(past, "promise 34", "cut(0, 1) -5");
        refused(past, "promise 35", "join(0, 1) -5");
    }

    private static void inFull() {
        String past = "full";
        refused(past, "promise 23", "order(1, 0, 0) -6", "order(0, 0, 0) -4", "order(100, 0, 0) -6");
        refused(past, "promise 24", "best() -3");
        refused(past, "promise 25", "bestAt(0) -3", "bestAt(7) -3", "bestAt(-1) -3");
        refused(past, "promise 26", "work(1) -6", "work(11) -6", "work(0) -3", "work(6) -3", "work(12) -1");
        refused(past, "promise 27", "days(1) -6", "days(0) -4");
        refused(past, "promise 28", "law(0, 0, 3000) -6", "law(0, 0, 2999) -4", "law(-1, 0, 3000) -4",
            "law(0, 0, 3001) -6");
        refused(past, "promise 31", "warp(0, 1) -3", "warp(3, 1) -3");
        refused(past, "promise 32", "cards(0) -3", "cards(3) -3");
        refused(past, "promise 33", "hang(2) -2");
        refused(past, "promise 34", "cut(3, 1) -2", "cut(0, 501) -6");
        refused(past, "promise 35", "join(0, 3) -2", "join(3, 0) -2", "join(0, 1) -6");
    }

    /** A cloth of another WIDE or HIGH is not explained, and its state is what the design is not. */
    private static void unlikeWeave() {
        due.about("promise 21: -3 of another WIDE or HIGH");
        DrawLooms x = drawn("012", "321");
        x.weave();
        x.paper(3, 3);
        due.is("HIGH above", x.explained(0), -3);
        x.paper(3, 1);
        due.is("HIGH below", x.explained(1), -3);
        x.paper(4, 2);
        due.is("WIDE above", x.explained(2), -3);
        x.paper(2, 2);
        due.is("WIDE below", x.explained(0), -3);
        x.paper(2, 3);
        due.is("the two changed about", x.explained(0), -3);
        due.is("what is told first", x.explained(3), -2);
        isCloth(x, "012", "321");
        draw(x, "012", "321");
        isExplained(x, 0, -9, -9);
        refusals(x, 2, 1, 5, 0, 0, 0);
    }
}
