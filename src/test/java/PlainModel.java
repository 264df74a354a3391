import java.util.ArrayList;
import java.util.Arrays;
import java.util.List;
import java.util.TreeSet;

/** The document once more, by trying everything out, as slow as that is: what DrawLooms is held against. */
final class PlainModel {
    private int[][] design = new int[8][8];
    private int[][] cloth = null;
    private int limit = 6;
    private final int[][] told = new int[4][];
    private int speed = 2;
    private int tie = 3;
    private int day = 0;
    private int lot = -9;
    private final List<int[]> orders = new ArrayList<>();
    private final List<int[]> laws = new ArrayList<>();
    private final int[][] accounts = new int[6][3];
    private final int[] warps = new int[4];
    private final int[][][] cards = new int[4][][];
    private final int[] refusals = new int[7];

    /** The answer to a call: its name, and its arguments (true is 1). */
    int call(String name, int... a) {
        int answer = answer(name, a);
        if (answer >= -6 && answer <= -1 && !(name.equals("account") && !isRefusedAccount(a))) {
            refusals[-answer]++;
            return name.equals("account") ? 2000000000 - answer : answer;
        }
        return answer;
    }

    private boolean isRefusedAccount(int[] a) {
        return a[0] < 0 || a[0] > 5 || a[1] < 0 || a[1] > 3;
    }

    private int answer(String name, int[] a) {
        switch (name) {
            case "paper":
                if (Math.min(a[0], a[1]) < 1) return -4;
                if (Math.max(a[0], a[1]) > 20) return -6;
                design = new int[a[1]][a[0]];
                return 1;
            case "square": {
                if (!in(design, a[0], a[1]) || !colour(a[2])) return -1;
                int was = design[a[1]][a[0]];
                design[a[1]][a[0]] = a[2];
                return was;
            }
            case "fill":
                if (!in(design, a[0], a[1]) || !colour(a[3])) return -1;
                if (a[2] < 0) return -4;
                if (a[2] > wide()) return -6;
                for (int i = 0; i < a[2]; i++) design[a[1]][(a[0] + i) % wide()] = a[3];
                return a[2];
            case "at": return in(design, a[0], a[1]) ? design[a[1]][a[0]] : -1;
            case "span": return a[0] == 0 ? span(turned(design)) : a[0] == 1 ? span(design) : -2;
            case "mirror": return a[0] == 0 ? mirror(turned(design)) : a[0] == 1 ? mirror(design) : -2;
            case "cords": return columns().size();
            case "cord": return a[0] < 0 || a[0] >= wide() ? -1 : cordOf(a[0]);
            case "pull": return pull(a[0], a[1]);
            case "pulls": return pulls().size();
            case "pullOf":
                if (a[0] < 0 || a[0] >= pulls().size()) return -1;
                return a[1] < 0 || a[1] > 1 ? -2 : pulls().get(a[0])[a[1]];
            case "limit": {
                if (a[0] < 1) return -4;
                if (a[0] > 20) return -6;
                int was = limit;
                limit = a[0];
                return was;
            }
            case "floats": return floats(a[0], a[1]);
            case "mend": return a[0] < 0 || a[0] >= high() ? -1 : mend(design[a[0]]);
            default: return clothAnswer(name, a);
        }
    }

    private int clothAnswer(String name, int[] a) {
        switch (name) {
            case "fault": {
                if (a[0] < 1 || a[0] > 3) return -2;
                int many = a[0] == 2 ? high() : columns().size();
                if (a[1] < 0 || a[1] >= many) return -1;
                if (a[0] == 3 && (a[2] < 0 || a[2] >= many || a[1] == a[2])) return -1;
                told[a[0]] = new int[] {a[1], a[2]};
                return 1;
            }
            case "clear": {
                int were = faultsTold();
                Arrays.fill(told, null);
                return were;
            }
            case "weave":
                cloth = woven(told);
                return differ(cloth, design);
            case "cloth": return cloth == null ? -3 : in(cloth, a[0], a[1]) ? cloth[a[1]][a[0]] : -1;
            case "see": {
                if (cloth == null) return -3;
                if (!in(cloth, a[0], a[1]) || !colour(a[2])) return -1;
                int was = cloth[a[1]][a[0]];
                cloth[a[1]][a[0]] = a[2];
                return was;
            }
            case "explained":
                if (a[0] < 0 || a[0] > 2) return -2;
                if (cloth == null || cloth.length != high() || cloth[0].length != wide()) return -3;
                return explanation()[a[0]];
            default: return loomAnswer(name, a);
        }
    }

    private int loomAnswer(String name, int[] a) {
        switch (name) {
            case "set": {
                if (a[0] < 0 || a[0] > 1) return -2;
                if (a[1] < 1 - a[0]) return -4;
                if (a[1] > 20) return -6;
                int was = a[0] == 0 ? speed : tie;
                if (a[0] == 0) speed = a[1]; else tie = a[1];
                return was;
            }
            case "order":
                if (a[0] < 1 || a[1] < 0 || a[2] < 0) return -4;
                if (a[0] > 99 || a[1] > 5 || a[2] > 2000 || orders.size() == 12) return -6;
                orders.add(new int[] {a[0], a[1], a[2], -9});
                return orders.size() - 1;
            case "best": return open().size() > 7 ? -3 : bestRow()[0];
            case "bestAt":
                if (open().size() > 7) return -3;
                return a[0] < 0 || a[0] >= open().size() ? -9 : bestRow()[a[0] + 1];
            case "work": {
                if (a[0] < 0 || a[0] >= orders.size()) return -1;
                int[] o = orders.get(a[0]);
                if (o[3] != -9) return -3;
                int then = day + takes(o, lot);
                if (then > 3000) return -6;
                day = then;
                o[3] = then;
                lot = o[1];
                return late(o, then);
            }
            case "days":
                if (a[0] < 1) return -4;
                if ((long) day + a[0] > 3000) return -6;
                return day += a[0];
            case "law":
                if (a[0] < 0 || a[1] < 0 || a[2] < day) return -4;
                if (a[0] > 200 || a[1] > 999 || a[2] > 3000 || laws.size() == 20) return -6;
                laws.add(a.clone());
                return laws.size() - 1;
            case "orderOf":
                if (a[0] < 0 || a[0] >= orders.size()) return -1;
                return a[1] < 0 || a[1] > 3 ? -2 : orders.get(a[0])[a[1]];
            default: return silkAnswer(name, a);
        }
    }

    private int silkAnswer(String name, int[] a) {
        switch (name) {
            case "silk": {
                if (a[0] < 0 || a[0] > 5) return -1;
                if (a[2] < 1 || a[3] < 0) return -4;
                if (a[2] > 100000 || a[3] > 40) return -6;
                int dry = (int) Math.floor(a[2] * 100.0 / (100 + a[3]) + 1e-9);
                accounts[a[0]][a[1]] += dry;
                if (a[1] == 1) accounts[a[0]][2] += dry * inForce(day)[0] / 1000;
                return dry;
            }
            case "account":
                if (a[0] < 0 || a[0] > 5) return -1;
                if (a[1] < 0 || a[1] > 3) return -2;
                int[] of = accounts[a[0]];
                return a[1] < 3 ? of[a[1]] : of[0] - of[1] - of[2];
            case "count":
                if (a[0] > 10 && a[0] < 17) return refusals[a[0] - 10];
                if (a[0] < 0 || a[0] > 8) return -9;
                return new int[] {wide(), high(), day, orders.size(), open().size(), laws.size(), paid(), lot,
                    faultsTold()}[a[0]];
            default: return beamAnswer(name, a);
        }
    }

    private int beamAnswer(String name, int[] a) {
        if (a[0] < 0 || a[0] > 3) return -1;
        boolean empty = warps[a[0]] == 0 && cards[a[0]] == null;
        switch (name) {
            case "warp":
                if (!empty) return -3;
                if (a[1] < 1) return -4;
                if (a[1] > 500) return -6;
                warps[a[0]] = a[1];
                return 1;
            case "cards":
                if (!empty) return -3;
                cards[a[0]] = copy(design);
                return 1;
            case "hang":
                if (empty) return -5;
                if (cards[a[0]] == null) return -2;
                design = copy(cards[a[0]]);
                return wide() * high();
            case "cut":
                if (empty) return -5;
                if (cards[a[0]] != null) return -2;
                if (a[1] < 1) return -4;
                if (a[1] > warps[a[0]]) return -6;
                return warps[a[0]] -= a[1];
            case "join":
                if (a[1] < 0 || a[1] > 3 || a[0] == a[1]) return -1;
                if (empty || warps[a[1]] == 0 && cards[a[1]] == null) return -5;
                if (cards[a[0]] != null || cards[a[1]] != null) return -2;
                if (warps[a[0]] + warps[a[1]] > 500) return -6;
                warps[a[0]] += warps[a[1]];
                warps[a[1]] = 0;
                return warps[a[0]];
            case "beamOf":
                if (a[1] < 0 || a[1] > 2) return -2;
                if (a[1] == 0) return empty ? 0 : cards[a[0]] == null ? 1 : 2;
                if (a[1] == 1) return warps[a[0]];
                int[][] c = cards[a[0]];
                return c == null || c.length != high() || c[0].length != wide() ? -9 : differ(c, design);
            default: throw new IllegalStateException(name);
        }
    }

    // ---- the design

    private int wide() { return design[0].length; }

    private int high() { return design.length; }

    private static boolean in(int[][] rows, int x, int y) {
        return y >= 0 && y < rows.length && x >= 0 && x < rows[0].length;
    }

    private static boolean colour(int c) { return c >= 0 && c <= 3; }

    private static int[][] copy(int[][] rows) {
        int[][] copy = rows.clone();
        for (int y = 0; y < rows.length; y++) copy[y] = rows[y].clone();
        return copy;
    }

    private static int[][] turned(int[][] rows) {
        int[][] turned = new int[rows[0].length][rows.length];
        for (int y = 0; y < rows.length; y++)
            for (int x = 0; x < rows[0].length; x++) turned[x][y] = rows[y][x];
        return turned;
    }

    private static int differ(int[][] p, int[][] q) {
        int many = 0;
        for (int y = 0; y < p.length; y++)
            for (int x = 0; x < p[0].length; x++) if (p[y][x] != q[y][x]) many++;
        return many;
    }

    private static int span(int[][] lines) {
        int n = lines.length;
        for (int s = 1; ; s++) {
            if (n % s != 0) continue;
            int[][] gone = new int[n][];
            for (int i = 0; i < n; i++) gone[(i + s) % n] = lines[i];
            if (Arrays.deepEquals(gone, lines)) return s;
        }
    }

    private static int mirror(int[][] lines) {
        int n = lines.length;
        for (int m = 0; m < n; m++) {
            int[][] seen = new int[n][];
            for (int k = 0; k < n; k++) seen[(m + n - k) % n] = lines[(m + k) % n];
            if (Arrays.deepEquals(seen, lines)) return m;
        }
        return -9;
    }

    /** The columns that are not like one ahead of them: the cords, each by its first column. */
    private List<int[]> columns() {
        List<int[]> first = new ArrayList<>();
        for (int[] column : turned(design)) if (place(first, column) < 0) first.add(column);
        return first;
    }

    private static int place(List<int[]> columns, int[] column) {
        for (int i = 0; i < columns.size(); i++) if (Arrays.equals(columns.get(i), column)) return i;
        return -1;
    }

    private int cordOf(int x) { return place(columns(), turned(design)[x]); }

    private int pull(int y, int c) {
        if (y < 0 || y >= high() || !colour(c)) return -1;
        int bits = 0;
        for (int x = 0; x < wide(); x++) if (design[y][x] == c) bits |= 1 << cordOf(x);
        return bits;
    }

    private List<int[]> pulls() {
        List<int[]> pulls = new ArrayList<>();
        for (int y = 0; y < high(); y++) {
            TreeSet<Integer> there = new TreeSet<>();
            for (int c : design[y]) there.add(c);
            for (int c : there) pulls.add(new int[] {y, c});
        }
        return pulls;
    }

    // ---- floats

    /** Lengths of the runs of a row of kinds, round; a kind below 0 is no run. */
    private static List<Integer> runs(int[] row) {
        int n = row.length;
        List<Integer> lengths = new ArrayList<>();
        for (int x = 0; x < n; x++) {
            if (row[x] < 0 || row[(x + n - 1) % n] == row[x]) continue;
            int length = 1;
            while (row[(x + length) % n] == row[x]) length++;
            lengths.add(length);
        }
        if (lengths.isEmpty() && row[0] >= 0) lengths.add(n);
        return lengths;
    }

    private int floats(int y, int what) {
        if (y < 0 || y >= high()) return -1;
        if (what < 0 || what > 1) return -2;
        int tooLong = 0;
        int longest = 0;
        for (int length : runs(design[y])) {
            longest = Math.max(longest, length);
            if (length > limit) tooLong++;
        }
        return what == 0 ? tooLong : longest;
    }

    private int mend(int[] row) {
        int best = -1;
        for (int set = 0; set < 1 << row.length; set++) {
            if (best >= 0 && Integer.bitCount(set) >= Integer.bitCount(best)) continue;
            if (isMended(row, set)) best = set;
        }
        return best;
    }

    private boolean isMended(int[] row, int set) {
        int[] mended = row.clone();
        for (int x = 0; x < row.length; x++) if ((set >> x & 1) == 1) mended[x] = -1;
        for (int length : runs(mended)) if (length > limit) return false;
        return true;
    }

    // ---- the cloth

    private int faultsTold() {
        int many = 0;
        for (int[] fault : told) if (fault != null) many++;
        return many;
    }

    private int[][] woven(int[][] faults) {
        int[][] cloth = copy(design);
        int cords = columns().size();
        int[] f = faults[3];
        if (f != null && f[0] < cords && f[1] < cords) {
            for (int x = 0; x < wide(); x++)
                for (int y = 0; y < high(); y++) {
                    if (cordOf(x) == f[0]) cloth[y][x] = columns().get(f[1])[y];
                    if (cordOf(x) == f[1]) cloth[y][x] = columns().get(f[0])[y];
                }
        }
        f = faults[1];
        if (f != null)
            for (int x = 0; x < wide(); x++)
                if (cordOf(x) == f[0]) for (int[] row : cloth) row[x] = 0;
        f = faults[2];
        if (f != null && f[0] < high()) {
            List<int[]> rows = new ArrayList<>(Arrays.asList(cloth));
            rows.remove(f[0]);
            rows.add(new int[wide()]);
            cloth = rows.toArray(new int[0][]);
        }
        return cloth;
    }

    private int[] explanation() {
        if (Arrays.deepEquals(cloth, design)) return new int[] {0, -9, -9};
        for (int kind = 1; kind <= 3; kind++) {
            int many = kind == 2 ? high() : columns().size();
            for (int a = 0; a < many; a++)
                for (int b = kind == 3 ? a + 1 : -9; b < (kind == 3 ? many : -8); b++) {
                    int[][] one = new int[4][];
                    one[kind] = new int[] {a, b};
                    if (Arrays.deepEquals(woven(one), cloth)) return new int[] {kind, a, b};
                }
        }
        return new int[] {-9, -9, -9};
    }

    // ---- orders, laws

    private List<Integer> open() {
        List<Integer> open = new ArrayList<>();
        for (int i = 0; i < orders.size(); i++) if (orders.get(i)[3] == -9) open.add(i);
        return open;
    }

    private int takes(int[] order, int ahead) {
        return (int) Math.ceil((double) order[0] / speed) + (order[1] == ahead ? 0 : tie);
    }

    private static int late(int[] order, int done) { return Math.max(0, done - order[2]); }

    /** Late together, then the orders in their row. */
    private int[] bestRow() {
        int[] best = {Integer.MAX_VALUE};
        return tried(open(), new ArrayList<>(), best);
    }

    private int[] tried(List<Integer> left, List<Integer> row, int[] best) {
        if (left.isEmpty()) {
            int then = day;
            int ahead = lot;
            int[] found = new int[row.size() + 1];
            for (int i = 0; i < row.size(); i++) {
                int[] o = orders.get(row.get(i));
                then += takes(o, ahead);
                ahead = o[1];
                found[0] += late(o, then);
                found[i + 1] = row.get(i);
            }
            return found[0] < best[0] ? found : best;
        }
        for (int i = 0; i < left.size(); i++) {
            List<Integer> rest = new ArrayList<>(left);
            row.add(rest.remove(i));
            best = tried(rest, row, best);
            row.remove(row.size() - 1);
        }
        return best;
    }

    private int[] inForce(int on) {
        int[] found = {0, 0, -1};
        for (int d = 0; d <= on; d++)
            for (int[] law : laws) if (law[2] == d) found = law;
        return found;
    }

    private int paid() {
        int paid = 0;
        for (int[] o : orders) if (o[3] != -9) paid += o[0] * inForce(o[3])[1];
        return paid;
    }
}
