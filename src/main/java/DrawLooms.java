import java.util.Arrays;

/**
 * Draw looms: designs on squared paper, their cords, pulls, floats and mending; cloth with faults;
 * orders on a loom; silk, laws and beams. The document's promises say what each public call does.
 *
 * All rows are made with the object, so that no call makes anything new.
 */
public final class DrawLooms {
    private static final int NOBODY = -1;
    private static final int OTHER = -2;
    private static final int STATE = -3;
    private static final int BELOW = -4;
    private static final int MISSING = -5;
    private static final int ROOM = -6;
    private static final int REFUSALS = 6;
    /** Refusals of a call whose answer may itself be below 0 are this less their number. */
    private static final int APART = 2000000000;
    /** The answer for what there is not; it is no refusal. */
    private static final int NONE = -9;
    /** The greatest int: what a search for the least begins with. */
    private static final int ABOVE_ALL = 2147483647;

    private static final int COLOURS = 4;
    private static final int MOST_SQUARES = 20;
    private static final int MOST_LIMIT = 20;
    private static final int BROKEN = 1;
    private static final int SKIPPED = 2;
    private static final int CROSSED = 3;
    private static final int KINDS = 3;

    private static final int MOST_SPEED = 20;
    private static final int MOST_TIE = 20;
    private static final int MOST_ORDERS = 12;
    private static final int MOST_IN_ROW = 7;
    private static final int MOST_ORDER_ELLS = 99;
    private static final int MOST_LOT = 5;
    private static final int MOST_DUE = 2000;
    private static final int MOST_DAY = 3000;

    private static final int MOST_LAWS = 20;
    private static final int MOST_WASTE = 200;
    private static final int MOST_PRICE = 999;
    private static final int ACCOUNTS = 6;
    private static final int MOST_GRAINS = 100000;
    private static final int MOST_WET = 40;

    private static final int BEAMS = 4;
    private static final int MOST_WARP = 500;
    private static final int NOTHING = 0;
    private static final int WARP = 1;
    private static final int CARDS = 2;

    private final Sheet design;
    private final Lines lines;
    private final Cords cords;
    private final Floats runs;
    private int limit;
    private final Sheet cloth;
    private boolean isWoven;
    private final Faults faults;
    private final Explanation explanation;
    private final Loom loom;
    private final BestRow bestRow;
    private final Laws laws;
    private final Accounts accounts;
    private final Beam[] beams;
    private final int[] refusals;

    public DrawLooms() {
        design = new Sheet();
        lines = new Lines();
        cords = new Cords();
        runs = new Floats();
        limit = 6;
        cloth = new Sheet();
        isWoven = false;
        faults = new Faults();
        explanation = new Explanation();
        loom = new Loom();
        bestRow = new BestRow();
        laws = new Laws();
        accounts = new Accounts();
        beams = new Beam[BEAMS];
        for (int i = 0; i < BEAMS; i++) {
            beams[i] = new Beam();
        }
        refusals = new int[REFUSALS + 1];
    }

    // ---- the design

    public int paper(int wide, int high) {
        if (wide < 1 || high < 1) {
            return refuse(BELOW);
        }
        if (wide > MOST_SQUARES || high > MOST_SQUARES) {
            return refuse(ROOM);
        }
        design.lay(wide, high);
        return 1;
    }

    public int square(int x, int y, int colour) {
        if (!design.has(x, y) || !isColour(colour)) {
            return refuse(NOBODY);
        }
        return design.paint(x, y, colour);
    }

    public int fill(int x, int y, int n, int colour) {
        if (!design.has(x, y) || !isColour(colour)) {
            return refuse(NOBODY);
        }
        if (n < 0) {
            return refuse(BELOW);
        }
        if (n > design.wide) {
            return refuse(ROOM);
        }
        for (int k = 0; k < n; k++) {
            design.paint(around(x + k, design.wide), y, colour);
        }
        return n;
    }

    public int at(int x, int y) {
        if (!design.has(x, y)) {
            return refuse(NOBODY);
        }
        return design.colourAt(x, y);
    }

    public int span(int what) {
        if (!isPlace(what, 2)) {
            return refuse(OTHER);
        }
        readLines(what);
        return lines.leastSpan();
    }

    public int mirror(int what) {
        if (!isPlace(what, 2)) {
            return refuse(OTHER);
        }
        readLines(what);
        return lines.leastMirror();
    }

    // ---- cords and pulls

    public int cords() {
        cords.readFrom(design);
        return cords.many;
    }

    public int cord(int x) {
        if (!isPlace(x, design.wide)) {
            return refuse(NOBODY);
        }
        cords.readFrom(design);
        return cords.ofColumn[x];
    }

    public int pull(int y, int colour) {
        if (!isPlace(y, design.high) || !isColour(colour)) {
            return refuse(NOBODY);
        }
        cords.readFrom(design);
        return cords.thatShow(design, y, colour);
    }

    public int pulls() {
        int many = 0;
        for (int y = 0; y < design.high; y++) {
            many += Integer.bitCount(design.coloursOfPick(y));
        }
        return many;
    }

    public int pullOf(int i, int what) {
        int found = i < 0 ? NONE : pickAndColour(i);
        if (found < 0) {
            return refuse(NOBODY);
        }
        if (!isPlace(what, 2)) {
            return refuse(OTHER);
        }
        return what == 0 ? found / COLOURS : found % COLOURS;
    }

    // ---- floats

    public int limit(int n) {
        if (n < 1) {
            return refuse(BELOW);
        }
        if (n > MOST_LIMIT) {
            return refuse(ROOM);
        }
        int was = limit;
        limit = n;
        return was;
    }

    public int floats(int y, int what) {
        if (!isPlace(y, design.high)) {
            return refuse(NOBODY);
        }
        if (!isPlace(what, 2)) {
            return refuse(OTHER);
        }
        runs.readFrom(design, y);
        return what == 0 ? runs.longerThan(limit) : runs.longest();
    }

    public int mend(int y) {
        if (!isPlace(y, design.high)) {
            return refuse(NOBODY);
        }
        runs.readFrom(design, y);
        return runs.leastMending(limit);
    }

    // ---- the cloth

    public int fault(int kind, int a, int b) {
        if (kind < 1 || kind > KINDS) {
            return refuse(OTHER);
        }
        if (!canBeFault(kind, a, b)) {
            return refuse(NOBODY);
        }
        faults.tell(kind, a, b);
        return 1;
    }

    public int clear() {
        int were = faults.howMany();
        faults.forget();
        return were;
    }

    public int weave() {
        cords.readFrom(design);
        cloth.lay(design.wide, design.high);
        for (int y = 0; y < design.high; y++) {
            int pick = faults.pickShown(y, design.high);
            for (int x = 0; x < design.wide; x++) {
                int column = faults.columnShown(x, cords);
                if (pick >= 0 && column >= 0) {
                    cloth.paint(x, y, design.colourAt(column, pick));
                }
            }
        }
        isWoven = true;
        return cloth.differences(design);
    }

    public int cloth(int x, int y) {
        if (!isWoven) {
            return refuse(STATE);
        }
        if (!cloth.has(x, y)) {
            return refuse(NOBODY);
        }
        return cloth.colourAt(x, y);
    }

    public int see(int x, int y, int colour) {
        if (!isWoven) {
            return refuse(STATE);
        }
        if (!cloth.has(x, y) || !isColour(colour)) {
            return refuse(NOBODY);
        }
        return cloth.paint(x, y, colour);
    }

    public int explained(int what) {
        if (!isPlace(what, 3)) {
            return refuse(OTHER);
        }
        if (!isWoven || !cloth.isAsLargeAs(design)) {
            return refuse(STATE);
        }
        cords.readFrom(design);
        explanation.find(design, cords, cloth);
        switch (what) {
            case 0: return explanation.kind;
            case 1: return explanation.first;
            default: return explanation.second;
        }
    }

    // ---- orders on the loom

    public int set(int what, int v) {
        if (!isPlace(what, 2)) {
            return refuse(OTHER);
        }
        if (v < (what == 0 ? 1 : 0)) {
            return refuse(BELOW);
        }
        if (v > (what == 0 ? MOST_SPEED : MOST_TIE)) {
            return refuse(ROOM);
        }
        bestRow.isKnown = false;
        int was = what == 0 ? loom.speed : loom.tie;
        if (what == 0) {
            loom.speed = v;
        } else {
            loom.tie = v;
        }
        return was;
    }

    public int order(int ells, int lot, int due) {
        if (ells < 1 || lot < 0 || due < 0) {
            return refuse(BELOW);
        }
        if (ells > MOST_ORDER_ELLS || lot > MOST_LOT || due > MOST_DUE) {
            return refuse(ROOM);
        }
        if (loom.orders >= MOST_ORDERS) {
            return refuse(ROOM);
        }
        bestRow.isKnown = false;
        return loom.takeOrder(ells, lot, due);
    }

    public int best() {
        if (loom.openOrders() > MOST_IN_ROW) {
            return refuse(STATE);
        }
        bestRow.find(loom);
        return bestRow.late;
    }

    public int bestAt(int i) {
        if (loom.openOrders() > MOST_IN_ROW) {
            return refuse(STATE);
        }
        bestRow.find(loom);
        return isPlace(i, bestRow.places) ? bestRow.row[i] : NONE;
    }

    public int work(int order) {
        if (!isPlace(order, loom.orders)) {
            return refuse(NOBODY);
        }
        if (!loom.isOpen(order)) {
            return refuse(STATE);
        }
        if (loom.day + loom.daysFor(order, loom.lot) > MOST_DAY) {
            return refuse(ROOM);
        }
        bestRow.isKnown = false;
        return loom.weaveOrder(order);
    }

    public int days(int n) {
        if (n < 1) {
            return refuse(BELOW);
        }
        if (n > MOST_DAY - loom.day) {
            return refuse(ROOM);
        }
        bestRow.isKnown = false;
        loom.day += n;
        return loom.day;
    }

    // ---- laws and silk

    public int law(int waste, int price, int day) {
        if (waste < 0 || price < 0 || day < loom.day) {
            return refuse(BELOW);
        }
        if (waste > MOST_WASTE || price > MOST_PRICE || day > MOST_DAY) {
            return refuse(ROOM);
        }
        if (laws.many >= MOST_LAWS) {
            return refuse(ROOM);
        }
        return laws.give(waste, price, day);
    }

    public int silk(int account, boolean home, int grains, int wet) {
        if (!isPlace(account, ACCOUNTS)) {
            return refuse(NOBODY);
        }
        if (grains < 1 || wet < 0) {
            return refuse(BELOW);
        }
        if (grains > MOST_GRAINS || wet > MOST_WET) {
            return refuse(ROOM);
        }
        int dry = grains * 100 / (100 + wet);
        if (home) {
            accounts.bringHome(account, dry, laws.wasteOn(loom.day));
        } else {
            accounts.out[account] += dry;
        }
        return dry;
    }

    public int account(int account, int what) {
        if (!isPlace(account, ACCOUNTS)) {
            return APART - refuse(NOBODY);
        }
        switch (what) {
            case 0: return accounts.out[account];
            case 1: return accounts.home[account];
            case 2: return accounts.waste[account];
            case 3: return accounts.owed(account);
            default: return APART - refuse(OTHER);
        }
    }

    // ---- beams

    public int warp(int beam, int ells) {
        if (!isPlace(beam, BEAMS)) {
            return refuse(NOBODY);
        }
        if (beams[beam].holds != NOTHING) {
            return refuse(STATE);
        }
        if (ells < 1) {
            return refuse(BELOW);
        }
        if (ells > MOST_WARP) {
            return refuse(ROOM);
        }
        beams[beam].holdWarp(ells);
        return 1;
    }

    public int cards(int beam) {
        if (!isPlace(beam, BEAMS)) {
            return refuse(NOBODY);
        }
        if (beams[beam].holds != NOTHING) {
            return refuse(STATE);
        }
        beams[beam].holdCards(design);
        return 1;
    }

    public int hang(int beam) {
        if (!isPlace(beam, BEAMS)) {
            return refuse(NOBODY);
        }
        int wrong = beams[beam].wrongFor(CARDS);
        if (wrong != 0) {
            return refuse(wrong);
        }
        design.become(beams[beam].cards);
        return design.wide * design.high;
    }

    public int cut(int beam, int ells) {
        if (!isPlace(beam, BEAMS)) {
            return refuse(NOBODY);
        }
        int wrong = beams[beam].wrongFor(WARP);
        if (wrong != 0) {
            return refuse(wrong);
        }
        if (ells < 1) {
            return refuse(BELOW);
        }
        if (ells > beams[beam].ells) {
            return refuse(ROOM);
        }
        beams[beam].holdWarp(beams[beam].ells - ells);
        return beams[beam].ells;
    }

    public int join(int a, int b) {
        if (!isPlace(a, BEAMS) || !isPlace(b, BEAMS) || a == b) {
            return refuse(NOBODY);
        }
        int wrongA = beams[a].wrongFor(WARP);
        int wrongB = beams[b].wrongFor(WARP);
        if (wrongA == MISSING || wrongB == MISSING) {
            return refuse(MISSING);
        }
        if (wrongA != 0 || wrongB != 0) {
            return refuse(OTHER);
        }
        int together = beams[a].ells + beams[b].ells;
        if (together > MOST_WARP) {
            return refuse(ROOM);
        }
        beams[a].holdWarp(together);
        beams[b].holdWarp(0);
        return together;
    }

    public int beamOf(int beam, int what) {
        if (!isPlace(beam, BEAMS)) {
            return refuse(NOBODY);
        }
        switch (what) {
            case 0: return beams[beam].holds;
            case 1: return beams[beam].ells;
            case 2: return beams[beam].cardsUnlike(design);
            default: return refuse(OTHER);
        }
    }

    // ---- what is known

    public int orderOf(int order, int what) {
        if (!isPlace(order, loom.orders)) {
            return refuse(NOBODY);
        }
        switch (what) {
            case 0: return loom.ells[order];
            case 1: return loom.lots[order];
            case 2: return loom.dues[order];
            case 3: return loom.doneOn[order];
            default: return refuse(OTHER);
        }
    }

    public int count(int what) {
        switch (what) {
            case 0: return design.wide;
            case 1: return design.high;
            case 2: return loom.day;
            case 3: return loom.orders;
            case 4: return loom.openOrders();
            case 5: return laws.many;
            case 6: return loom.paidBy(laws);
            case 7: return loom.lot;
            case 8: return faults.howMany();
            default: return refusalsOf(what - 10);
        }
    }

    // ---- helpers of the calls

    private int refuse(int refusal) {
        if (isPlace(-refusal, refusals.length)) {
            refusals[-refusal]++;
        }
        return refusal;
    }

    private int refusalsOf(int number) {
        return number >= 1 && number <= REFUSALS ? refusals[number] : NONE;
    }

    private void readLines(int what) {
        if (what == 0) {
            lines.readColumns(design);
        } else {
            lines.readRows(design);
        }
    }

    /** PICK and COLOUR of a PULL as one number, PICK times COLOURS and COLOUR; NONE without. */
    private int pickAndColour(int pull) {
        int ahead = 0;
        for (int y = 0; y < design.high; y++) {
            int there = design.coloursOfPick(y);
            for (int colour = 0; colour < COLOURS; colour++) {
                if ((there >> colour & 1) == 0) {
                    continue;
                }
                if (ahead == pull) {
                    return y * COLOURS + colour;
                }
                ahead++;
            }
        }
        return NONE;
    }

    private boolean canBeFault(int kind, int a, int b) {
        if (kind == SKIPPED) {
            return isPlace(a, design.high);
        }
        cords.readFrom(design);
        if (kind == BROKEN) {
            return isPlace(a, cords.many);
        }
        return isPlace(a, cords.many) && isPlace(b, cords.many) && a != b;
    }

    private static boolean isPlace(int i, int many) {
        return i >= 0 && i < many;
    }

    private static boolean isColour(int colour) {
        return isPlace(colour, COLOURS);
    }

    /** A place that is less than one round off, brought back among 0 .. many less 1. */
    private static int around(int place, int many) {
        if (place < 0) {
            return place + many;
        }
        return place < many ? place : place - many;
    }

    /** Squares of two bits each, a row in one long: a design, a cloth, or cards. */
    private static final class Sheet {
        int wide = 8;
        int high = 8;
        final long[] rows = new long[MOST_SQUARES];

        boolean has(int x, int y) {
            return isPlace(x, wide) && isPlace(y, high);
        }

        int colourAt(int x, int y) {
            return (int) (rows[y] >>> (2 * x) & 3L);
        }

        int paint(int x, int y, int colour) {
            int was = colourAt(x, y);
            rows[y] ^= (long) (was ^ colour) << (2 * x);
            return was;
        }

        void lay(int newWide, int newHigh) {
            wide = newWide;
            high = newHigh;
            Arrays.fill(rows, 0L);
        }

        void become(Sheet other) {
            wide = other.wide;
            high = other.high;
            System.arraycopy(other.rows, 0, rows, 0, MOST_SQUARES);
        }

        boolean isAsLargeAs(Sheet other) {
            return wide == other.wide && high == other.high;
        }

        /** In how many squares two sheets differ that are as large as each other. */
        int differences(Sheet other) {
            int many = 0;
            for (int y = 0; y < high; y++) {
                for (int x = 0; x < wide; x++) {
                    if (colourAt(x, y) != other.colourAt(x, y)) {
                        many++;
                    }
                }
            }
            return many;
        }

        /** Bits of the colours that are in a pick. */
        int coloursOfPick(int y) {
            int there = 0;
            for (int x = 0; x < wide; x++) {
                there |= 1 << colourAt(x, y);
            }
            return there;
        }
    }

    /** The columns or the rows of a sheet, each as one number, so that like ones are told at once. */
    private static final class Lines {
        int many = 0;
        final long[] codes = new long[MOST_SQUARES];

        void readColumns(Sheet sheet) {
            many = sheet.wide;
            for (int x = 0; x < many; x++) {
                long code = 0;
                for (int y = 0; y < sheet.high; y++) {
                    code |= (long) sheet.colourAt(x, y) << (2 * y);
                }
                codes[x] = code;
            }
        }

        void readRows(Sheet sheet) {
            many = sheet.high;
            System.arraycopy(sheet.rows, 0, codes, 0, many);
        }

        int leastSpan() {
            for (int by = 1; by < many; by++) {
                if (many % by == 0 && repeatsBy(by)) {
                    return by;
                }
            }
            return many;
        }

        int leastMirror() {
            for (int m = 0; m < many; m++) {
                if (mirrorsAt(m)) {
                    return m;
                }
            }
            return NONE;
        }

        private boolean repeatsBy(int by) {
            for (int i = 0; i < many; i++) {
                if (codes[i] != codes[around(i + by, many)]) {
                    return false;
                }
            }
            return true;
        }

        private boolean mirrorsAt(int m) {
            for (int k = 1; k < many; k++) {
                if (codes[around(m - k, many)] != codes[around(m + k, many)]) {
                    return false;
                }
            }
            return true;
        }
    }

    /** Which columns of a design hang on which cord. */
    private static final class Cords {
        int many = 0;
        final Lines columns = new Lines();
        final int[] ofColumn = new int[MOST_SQUARES];
        final int[] firstColumn = new int[MOST_SQUARES];

        void readFrom(Sheet sheet) {
            columns.readColumns(sheet);
            many = 0;
            for (int x = 0; x < columns.many; x++) {
                int cord = cordLike(columns.codes[x]);
                if (cord == many) {
                    firstColumn[many] = x;
                    many++;
                }
                ofColumn[x] = cord;
            }
        }

        /** Bits of the cords whose columns have a colour in a pick of the sheet that was read. */
        int thatShow(Sheet sheet, int y, int colour) {
            int bits = 0;
            for (int cord = 0; cord < many; cord++) {
                if (sheet.colourAt(firstColumn[cord], y) == colour) {
                    bits |= 1 << cord;
                }
            }
            return bits;
        }

        /** The cord that is there already for such a column, or else the next new one. */
        private int cordLike(long code) {
            for (int cord = 0; cord < many; cord++) {
                if (columns.codes[firstColumn[cord]] == code) {
                    return cord;
                }
            }
            return many;
        }
    }

    /** The runs of one pick, and how they are mended. */
    private static final class Floats {
        /**
         * A mended square costs this and its column's bit. So the least sum of costs is that of the
         * fewest squares, and among these of the least bits.
         */
        private static final int MENDED = 1 << MOST_SQUARES;

        private int wide = 1;
        private int many = 0;
        private boolean isClosed = false;
        private final int[] starts = new int[MOST_SQUARES];
        private final int[] lengths = new int[MOST_SQUARES];
        private final int[] costs = new int[MOST_SQUARES + 1];

        void readFrom(Sheet sheet, int y) {
            wide = sheet.wide;
            many = 0;
            int found = firstStart(sheet, y);
            isClosed = found < 0;
            int first = Math.max(0, found);
            for (int k = 0; k < wide; k++) {
                int x = around(first + k, wide);
                if (k == 0 || isStart(sheet, x, y)) {
                    addRun(x);
                }
                lengths[many - 1]++;
            }
        }

        int longerThan(int limit) {
            int found = 0;
            for (int i = 0; i < many; i++) {
                if (lengths[i] > limit) {
                    found++;
                }
            }
            return found;
        }

        int longest() {
            int most = 0;
            for (int i = 0; i < many; i++) {
                most = Math.max(most, lengths[i]);
            }
            return most;
        }

        /** The bits of the columns to mend; runs do not touch each other, so each has its own least. */
        int leastMending(int limit) {
            if (isClosed) {
                return wide > limit ? closedCost(limit) % MENDED : 0;
            }
            int sum = 0;
            for (int i = 0; i < many; i++) {
                sum += openCost(starts[i], lengths[i], limit);
            }
            return sum % MENDED;
        }

        /** Column 0 is in the least set of a closed run: without it, all could go down by one column. */
        private int closedCost(int limit) {
            return costOf(0) + openCost(1, wide - 1, limit);
        }

        /** costs[i]: the least with the i-th square mended; 0 and the last stand for the run's borders. */
        private int openCost(int start, int length, int limit) {
            costs[0] = 0;
            for (int i = 1; i <= length; i++) {
                costs[i] = cheapestAhead(i, limit) + costOf(around(start + i - 1, wide));
            }
            return cheapestAhead(length + 1, limit);
        }

        private int cheapestAhead(int i, int limit) {
            int least = ABOVE_ALL;
            for (int j = Math.max(0, i - limit - 1); j < i; j++) {
                least = Math.min(least, costs[j]);
            }
            return least;
        }

        private int costOf(int column) {
            return MENDED + (1 << column);
        }

        private void addRun(int start) {
            starts[many] = start;
            lengths[many] = 0;
            many++;
        }

        private int firstStart(Sheet sheet, int y) {
            for (int x = 0; x < wide; x++) {
                if (isStart(sheet, x, y)) {
                    return x;
                }
            }
            return NONE;
        }

        private boolean isStart(Sheet sheet, int x, int y) {
            return sheet.colourAt(x, y) != sheet.colourAt(around(x - 1, wide), y);
        }
    }

    /** Faults, one at most of a kind, and what a cloth with them shows where. */
    private static final class Faults {
        private final boolean[] isTold = new boolean[KINDS + 1];
        private final int[] firsts = new int[KINDS + 1];
        private final int[] seconds = new int[KINDS + 1];

        void tell(int kind, int first, int second) {
            isTold[kind] = true;
            firsts[kind] = first;
            seconds[kind] = second;
        }

        void forget() {
            for (int kind = 1; kind <= KINDS; kind++) {
                isTold[kind] = false;
            }
        }

        int howMany() {
            int many = 0;
            for (int kind = 1; kind <= KINDS; kind++) {
                if (isTold[kind]) {
                    many++;
                }
            }
            return many;
        }

        /** The column of the design that is shown at a column; NONE: 0 is shown. */
        int columnShown(int x, Cords cords) {
            int cord = cords.ofColumn[x];
            if (isTold[BROKEN] && firsts[BROKEN] == cord) {
                return NONE;
            }
            int a = firsts[CROSSED];
            int b = seconds[CROSSED];
            if (!isTold[CROSSED] || !isPlace(a, cords.many) || !isPlace(b, cords.many)) {
                return x;
            }
            if (cord == a) {
                return cords.firstColumn[b];
            }
            return cord == b ? cords.firstColumn[a] : x;
        }

        /** The pick of the design that is shown at a pick; NONE: 0 is shown. */
        int pickShown(int y, int high) {
            int skipped = firsts[SKIPPED];
            if (!isTold[SKIPPED] || skipped >= high || y < skipped) {
                return y;
            }
            return y + 1 < high ? y + 1 : NONE;
        }
    }

    /** The first fault, or none, with which a design becomes a cloth: tries them in their order. */
    private static final class Explanation {
        int kind = NONE;
        int first = NONE;
        int second = NONE;
        private final Faults trial = new Faults();
        private final Lines shown = new Lines();

        /** The cords are those of the design; the cloth is as large as it. */
        void find(Sheet design, Cords cords, Sheet cloth) {
            shown.readColumns(cloth);
            trial.forget();
            if (fitsByColumns(cords)) {
                found(0, NONE, NONE);
            } else if (!findBroken(cords) && !findSkipped(design, cloth) && !findCrossed(cords)) {
                found(NONE, NONE, NONE);
            }
        }

        private void found(int newKind, int newFirst, int newSecond) {
            kind = newKind;
            first = newFirst;
            second = newSecond;
        }

        private boolean findBroken(Cords cords) {
            trial.forget();
            for (int cord = 0; cord < cords.many; cord++) {
                trial.tell(BROKEN, cord, NONE);
                if (fitsByColumns(cords)) {
                    found(BROKEN, cord, NONE);
                    return true;
                }
            }
            return false;
        }

        private boolean findSkipped(Sheet design, Sheet cloth) {
            trial.forget();
            for (int pick = 0; pick < design.high; pick++) {
                trial.tell(SKIPPED, pick, NONE);
                if (fitsByRows(design, cloth)) {
                    found(SKIPPED, pick, NONE);
                    return true;
                }
            }
            return false;
        }

        private boolean findCrossed(Cords cords) {
            trial.forget();
            for (int a = 0; a < cords.many; a++) {
                for (int b = a + 1; b < cords.many; b++) {
                    trial.tell(CROSSED, a, b);
                    if (fitsByColumns(cords)) {
                        found(CROSSED, a, b);
                        return true;
                    }
                }
            }
            return false;
        }

        private boolean fitsByColumns(Cords cords) {
            for (int x = 0; x < shown.many; x++) {
                int column = trial.columnShown(x, cords);
                long due = column < 0 ? 0L : cords.columns.codes[column];
                if (shown.codes[x] != due) {
                    return false;
                }
            }
            return true;
        }

        private boolean fitsByRows(Sheet design, Sheet cloth) {
            for (int y = 0; y < design.high; y++) {
                int pick = trial.pickShown(y, design.high);
                long due = pick < 0 ? 0L : design.rows[pick];
                if (cloth.rows[y] != due) {
                    return false;
                }
            }
            return true;
        }
    }

    /** The loom, its day, and its orders. */
    private static final class Loom {
        int speed = 2;
        int tie = 3;
        int day = 0;
        int lot = NONE;
        int orders = 0;
        final int[] ells = new int[MOST_ORDERS];
        final int[] lots = new int[MOST_ORDERS];
        final int[] dues = new int[MOST_ORDERS];
        final int[] doneOn = new int[MOST_ORDERS];

        int takeOrder(int newElls, int newLot, int due) {
            int number = orders;
            ells[number] = newElls;
            lots[number] = newLot;
            dues[number] = due;
            doneOn[number] = NONE;
            orders++;
            return number;
        }

        boolean isOpen(int order) {
            return doneOn[order] < 0;
        }

        int openOrders() {
            int many = 0;
            for (int i = 0; i < orders; i++) {
                if (isOpen(i)) {
                    many++;
                }
            }
            return many;
        }

        int daysFor(int order, int lotAhead) {
            int weaving = (ells[order] + speed - 1) / speed;
            return lots[order] == lotAhead ? weaving : tie + weaving;
        }

        int lateOf(int order, int done) {
            return Math.max(0, done - dues[order]);
        }

        int weaveOrder(int order) {
            day += daysFor(order, lot);
            lot = lots[order];
            doneOn[order] = day;
            return lateOf(order, day);
        }

        int paidBy(Laws laws) {
            int paid = 0;
            for (int i = 0; i < orders; i++) {
                if (!isOpen(i)) {
                    paid += ells[i] * laws.priceOn(doneOn[i]);
                }
            }
            return paid;
        }
    }

    /** The best row of the open orders of a loom, kept until something of the loom changes. */
    private static final class BestRow {
        boolean isKnown = false;
        int late = 0;
        int places = 0;
        final int[] row = new int[MOST_IN_ROW];
        private final int[] open = new int[MOST_IN_ROW];
        private final int[] trial = new int[MOST_IN_ROW];
        private final boolean[] isTaken = new boolean[MOST_IN_ROW];

        void find(Loom loom) {
            if (isKnown) {
                return;
            }
            places = 0;
            for (int i = 0; i < loom.orders && places < MOST_IN_ROW; i++) {
                if (loom.isOpen(i)) {
                    open[places] = i;
                    places++;
                }
            }
            late = ABOVE_ALL;
            goOn(loom, 0, loom.day, loom.lot, 0);
            isKnown = true;
        }

        /**
         * Rows are tried in the order of their numbers and being late only grows, so a row that is not
         * better than the one found is left at once.
         */
        private void goOn(Loom loom, int place, int day, int lot, int lateSoFar) {
            if (lateSoFar >= late) {
                return;
            }
            if (place >= places) {
                late = lateSoFar;
                System.arraycopy(trial, 0, row, 0, places);
                return;
            }
            for (int i = 0; i < places; i++) {
                if (!isTaken[i]) {
                    int order = open[i];
                    int done = day + loom.daysFor(order, lot);
                    isTaken[i] = true;
                    trial[place] = order;
                    goOn(loom, place + 1, done, loom.lots[order], lateSoFar + loom.lateOf(order, done));
                    isTaken[i] = false;
                }
            }
        }
    }

    /** Laws of waste and price, each from a day on. */
    private static final class Laws {
        int many = 0;
        private final int[] wastes = new int[MOST_LAWS];
        private final int[] prices = new int[MOST_LAWS];
        private final int[] from = new int[MOST_LAWS];

        int give(int waste, int price, int day) {
            int number = many;
            wastes[number] = waste;
            prices[number] = price;
            from[number] = day;
            many++;
            return number;
        }

        int wasteOn(int day) {
            int law = inForceOn(day);
            return law < 0 ? 0 : wastes[law];
        }

        int priceOn(int day) {
            int law = inForceOn(day);
            return law < 0 ? 0 : prices[law];
        }

        private int inForceOn(int day) {
            int latest = NONE;
            for (int i = 0; i < many; i++) {
                if (from[i] <= day && (latest < 0 || from[i] >= from[latest])) {
                    latest = i;
                }
            }
            return latest;
        }
    }

    /** Silk of the weavers, all as dry. */
    private static final class Accounts {
        final int[] out = new int[ACCOUNTS];
        final int[] home = new int[ACCOUNTS];
        final int[] waste = new int[ACCOUNTS];

        void bringHome(int account, int dry, int thousandths) {
            home[account] += dry;
            waste[account] += dry * thousandths / 1000;
        }

        int owed(int account) {
            return out[account] - home[account] - waste[account];
        }
    }

    /** A beam that is empty, or holds a warp, or cards. */
    private static final class Beam {
        int holds = NOTHING;
        int ells = 0;
        final Sheet cards = new Sheet();

        void holdWarp(int newElls) {
            ells = newElls;
            holds = newElls > 0 ? WARP : NOTHING;
        }

        void holdCards(Sheet design) {
            cards.become(design);
            holds = CARDS;
        }

        /** The refusal to a call that wants a thing on the beam; 0 if it is there. */
        int wrongFor(int thing) {
            if (holds == NOTHING) {
                return MISSING;
            }
            return holds == thing ? 0 : OTHER;
        }

        int cardsUnlike(Sheet design) {
            if (holds != CARDS || !cards.isAsLargeAs(design)) {
                return NONE;
            }
            return cards.differences(design);
        }
    }
}
