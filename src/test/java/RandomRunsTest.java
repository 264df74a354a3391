import java.util.Random;

/** Runs of 512 calls from fixed seeds, each answer held against the plain model's. */
public final class RandomRunsTest {
    private static final int RUNS = 600;
    private static final int CALLS = 512;
    private static final String[] NAMES = {
        "paper", "square", "fill", "at", "span", "mirror", "cords", "cord", "pull", "pulls", "pullOf",
        "limit", "floats", "mend", "fault", "clear", "weave", "cloth", "see", "explained", "set", "order",
        "best", "bestAt", "work", "days", "law", "silk", "account", "warp", "cards", "hang", "cut", "join",
        "beamOf", "orderOf", "count"};

    private final Due due;
    private final Random random;
    private final DrawLooms real = new DrawLooms();
    private final PlainModel model = new PlainModel();
    /** Runs with narrow papers have more of what is alike; wide ones cost the model much. */
    private final int mostWide;

    private RandomRunsTest(Due due, int seed) {
        this.due = due;
        random = new Random(seed);
        mostWide = seed % 20 == 0 ? 20 : 2 + seed % 11;
    }

    public static void main(String[] args) {
        Due due = new Due();
        for (int seed = 0; seed < RUNS && due.allRight(); seed++) {
            due.about("run " + seed);
            new RandomRunsTest(due, seed).run();
        }
        due.finish();
    }

    private void run() {
        due.is("paper", real.paper(mostWide, 4), model.call("paper", mostWide, 4));
        for (int i = 1; i < CALLS && due.allRight(); i++) {
            if (random.nextInt(6) == 0) {
                check("square", among(mostWide), among(5), among(random.nextBoolean() ? 2 : 4));
            } else {
                String name = NAMES[random.nextInt(NAMES.length)];
                check(name, arguments(name));
            }
        }
    }

    private void check(String name, int... a) {
        StringBuilder text = new StringBuilder(name).append('(');
        for (int i = 0; i < a.length; i++) {
            text.append(i == 0 ? "" : ", ").append(a[i]);
        }
        due.is(text.append(')').toString(), Calls.answer(real, name, a), model.call(name, a));
    }

    /** 0 .. many less 1 mostly; now and then beside these, or far off. */
    private int among(int many) {
        switch (random.nextInt(60)) {
            case 0: return -1;
            case 1: return many;
            case 2: return random.nextInt();
            default: return random.nextInt(many);
        }
    }

    private int from(int least, int greatest) {
        int off = among(greatest - least + 1);
        return off + least;
    }

    private int[] arguments(String name) {
        switch (name) {
            case "paper": return random.nextInt(4) > 0 ? new int[] {mostWide, from(1, 6)}
                : new int[] {from(1, mostWide), from(1, random.nextInt(5) == 0 ? 20 : 6)};
            case "square": return new int[] {among(mostWide), among(6), among(4)};
            case "fill": return new int[] {among(mostWide), among(6), among(mostWide + 1), among(4)};
            case "at": case "cloth": return new int[] {among(mostWide), among(6)};
            case "span": case "mirror": return new int[] {among(2)};
            case "cord": return new int[] {among(mostWide)};
            case "pull": return new int[] {among(6), among(4)};
            case "pullOf": return new int[] {among(16), among(2)};
            case "limit": return new int[] {from(1, random.nextBoolean() ? 4 : 20)};
            case "floats": return new int[] {among(6), among(2)};
            case "mend": return new int[] {among(5)};
            case "fault": return new int[] {from(1, 3), among(4), among(4)};
            case "see": return new int[] {among(mostWide), among(6), among(4)};
            case "explained": return new int[] {among(3)};
            case "cords": case "pulls": case "clear": case "weave": case "best": return new int[0];
            default: return loomArguments(name);
        }
    }

    private int[] loomArguments(String name) {
        int now = real.count(2);
        switch (name) {
            case "set": return random.nextBoolean() ? new int[] {0, from(1, 20)} : new int[] {among(2), among(21)};
            case "order": return new int[] {from(1, random.nextBoolean() ? 9 : 99), among(random.nextBoolean() ? 2 : 6),
                random.nextBoolean() ? Math.min(2000, now + among(60)) : among(2001)};
            case "bestAt": return new int[] {among(8)};
            case "work": return new int[] {among(12)};
            case "days": return new int[] {from(1, random.nextInt(20) == 0 ? 1500 : 9)};
            case "law": return new int[] {among(201), among(1000), now + among(random.nextBoolean() ? 2 : 40)};
            case "silk": return new int[] {among(6), random.nextInt(2), from(1, random.nextBoolean() ? 99 : 100000),
                among(41)};
            case "account": return new int[] {among(6), among(4)};
            case "warp": return new int[] {among(4), from(1, 500)};
            case "cards": case "hang": return new int[] {random.nextInt(3) == 0 ? among(4) : 3};
            case "cut": return new int[] {among(4), from(1, random.nextBoolean() ? 30 : 500)};
            case "join": return new int[] {among(4), among(4)};
            case "beamOf": return new int[] {among(4), among(3)};
            case "orderOf": return new int[] {among(12), among(4)};
            case "count": return new int[] {among(17)};
            default: throw new IllegalStateException(name);
        }
    }
}
