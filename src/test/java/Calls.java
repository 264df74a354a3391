/** Calls by their names, with all arguments as numbers (true is 1). */
final class Calls {
    private Calls() { }

    static int answer(DrawLooms x, String name, int... a) {
        switch (name) {
            case "paper": return x.paper(a[0], a[1]);
            case "square": return x.square(a[0], a[1], a[2]);
            case "fill": return x.fill(a[0], a[1], a[2], a[3]);
            case "at": return x.at(a[0], a[1]);
            case "span": return x.span(a[0]);
            case "mirror": return x.mirror(a[0]);
            case "cords": return x.cords();
            case "cord": return x.cord(a[0]);
            case "pull": return x.pull(a[0], a[1]);
            case "pulls": return x.pulls();
            case "pullOf": return x.pullOf(a[0], a[1]);
            case "limit": return x.limit(a[0]);
            case "floats": return x.floats(a[0], a[1]);
            case "mend": return x.mend(a[0]);
            case "fault": return x.fault(a[0], a[1], a[2]);
            case "clear": return x.clear();
            case "weave": return x.weave();
            case "cloth": return x.cloth(a[0], a[1]);
            case "see": return x.see(a[0], a[1], a[2]);
            case "explained": return x.explained(a[0]);
            default: return loomAnswer(x, name, a);
        }
    }

    private static int loomAnswer(DrawLooms x, String name, int[] a) {
        switch (name) {
            case "set": return x.set(a[0], a[1]);
            case "order": return x.order(a[0], a[1], a[2]);
            case "best": return x.best();
            case "bestAt": return x.bestAt(a[0]);
            case "work": return x.work(a[0]);
            case "days": return x.days(a[0]);
            case "law": return x.law(a[0], a[1], a[2]);
            case "silk": return x.silk(a[0], a[1] == 1, a[2], a[3]);
            case "account": return x.account(a[0], a[1]);
            case "warp": return x.warp(a[0], a[1]);
            case "cards": return x.cards(a[0]);
            case "hang": return x.hang(a[0]);
            case "cut": return x.cut(a[0], a[1]);
            case "join": return x.join(a[0], a[1]);
            case "beamOf": return x.beamOf(a[0], a[1]);
            case "orderOf": return x.orderOf(a[0], a[1]);
            case "count": return x.count(a[0]);
            default: throw new IllegalStateException(name);
        }
    }
}
