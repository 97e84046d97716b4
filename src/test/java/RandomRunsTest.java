import java.util.Random;

/** Runs of up to 512 calls by chance (with fixed seeds), on the class and on the model, which must answer alike. */
public final class RandomRunsTest {
    private static final String[] CALLS = {
        "town", "bone", "prove", "feed", "end", "text", "fault", "by", "lend", "swap", "steal", "burn", "pass",
        "played", "undo", "of", "saints", "rules", "seen", "forget", "same", "best", "histories", "led", "chance",
        "round", "pilgrims", "image", "back", "about", "script"};
    // How often each call comes, for long runs of four sorts: all, laws and saints, what was seen, steps.
    private static final int[][] OFTEN = {
        {4, 8, 4, 1, 1, 2, 2, 4, 8, 6, 6, 2, 4, 3, 8, 8, 8, 2, 5, 1, 4, 2, 1, 3, 2, 4, 3, 2, 2, 8, 6},
        {4, 12, 6, 0, 0, 0, 4, 8, 4, 3, 3, 1, 3, 4, 2, 16, 24, 0, 0, 0, 0, 0, 0, 0, 0, 0, 6, 1, 1, 3, 12},
        {3, 1, 0, 0, 0, 0, 0, 0, 0, 0, 0, 0, 0, 0, 0, 0, 0, 3, 16, 1, 6, 4, 3, 8, 2, 6, 0, 1, 1, 2, 0},
        {2, 4, 8, 0, 0, 0, 0, 4, 16, 12, 10, 4, 8, 6, 16, 24, 2, 0, 0, 0, 0, 0, 0, 0, 0, 0, 0, 3, 3, 16, 8}};

    private final Random random;
    private final Texts texts;
    private final NineGraves graves = new NineGraves();
    private final Model model = new Model();
    private final StringBuilder log = new StringBuilder();
    private int calls;

    private RandomRunsTest(long seed) {
        random = new Random(seed);
        texts = new Texts(random);
    }

    public static void main(String[] args) {
        int runs = Integer.getInteger("runs", 4000);
        long first = Long.getLong("seed", 0);
        int wrong = 0;
        for (long seed = first; seed < first + runs && wrong < 3; seed++) {
            int sort = (int) (seed % 8);
            RandomRunsTest test = new RandomRunsTest(seed);
            String fault = sort < 4 ? test.run(sort) : sort < 7 ? test.oneLaw() : test.oneSighting();
            if (fault != null) {
                wrong++;
                System.out.println("seed " + seed + ": " + fault);
            }
        }
        System.out.println(wrong == 0 ? runs + " runs answered as the model does" : wrong + " runs did not");
        if (wrong != 0) {
            System.exit(1);
        }
    }

    private String run(int sort) {
        int sum = 0;
        for (int n : OFTEN[sort]) {
            sum += n;
        }
        for (int i = 0; i < 3; i++) {
            if (random.nextInt(3) != 0 && !call("town", five(below(30), below(30), 0, 0))) {
                return log.toString();
            }
        }
        while (calls < 512) {
            int at = random.nextInt(sum);
            int call = 0;
            while (at >= OFTEN[sort][call]) {
                at -= OFTEN[sort][call];
                call++;
            }
            if (CALLS[call].equals("script")) {
                if (!script(texts.any())) {
                    return log.toString();
                }
            } else if (!call(CALLS[call], arguments(CALLS[call], sort))) {
                return log.toString();
            }
        }
        return null;
    }

    /** A short run: BONES, one text, and all that it rules. */
    private String oneLaw() {
        boolean good = true;
        int towns = 1 + below(4);
        for (int i = 0; i < towns; i++) {
            good = good && call("town", five(below(100), below(100), 0, 0));
        }
        int bones = below(15);
        int kinds = 1 + below(6);
        for (int i = 0; i < bones; i++) {
            good = good && call("bone", five(below(kinds), 1 + below(below(2) == 0 ? 999 : 12), below(towns), 0));
            good = good && (below(2) == 0 || call("prove", five(below(towns), below(i + 1), 0, 0)));
        }
        String text = below(2) == 0 ? texts.any() : texts.clashing(kinds);
        good = good && script(text) && call("by", five(0, 0, 0, 0));
        for (int turn = 0; turn < 3 && good; turn++) {
            int set = (1 << towns) - 1 & ~below(3);
            for (int i = -1; i < bones && good; i++) {
                good = call("saints", five(set, i, 0, 0)) && call("of", five(i, 6, 0, 0)) && call("of", five(i, 1, 0, 0));
            }
            good = good && call("pilgrims", five(below(10000), 99, 3, below(towns)))
                    && call(turn == 0 ? "played" : "pass", five(turn * below(9), 0, 0, 0)) && call("about", five(5, 0, 0, 0));
        }
        return good ? null : log.toString();
    }

    /** A short run: twelve SEEN that are near to one another, and ROUNDS of as many TOWNS as can be. */
    private String oneSighting() {
        boolean good = true;
        int wide = 5 + below(96);
        int towns = 1 + below(10);
        int years = 2 + below(12);
        int weights = 1 + below(6);
        for (int i = 0; i < towns; i++) {
            good = good && call("town", five(below(wide), below(wide), 0, 0));
        }
        good = good && call("rules", five(below(10), 1 + below(20), 0, 0));
        int seen = 6 + below(7);
        int kinds = 1 + below(2);
        for (int i = 0; i < seen; i++) {
            good = good && call("seen", five(below(Math.min(3, towns)), below(kinds), 100 - below(weights), below(years)));
        }
        good = good && call("best", five(0, 0, 0, 0)) && call("best", five(1, 0, 0, 0)) && call("histories", five(0, 0, 0, 0));
        for (int i = 0; i < seen; i++) {
            good = good && call("led", five(i, 0, 0, 0)) && call("same", five(below(seen), below(seen), 0, 0));
        }
        for (int i = -1; i < 8; i++) {
            good = good && call("round", five((1 << towns) - 1, i, 0, 0)) && call("round", five(below(1 << towns), i, 0, 0));
        }
        return good ? null : log.toString();
    }

    private boolean script(String text) {
        boolean good = call("end", new int[5]);
        for (int i = 0; i < text.length() && good; i += 20) {
            int[] five = new int[5];
            for (int k = 0; k < 20; k++) {
                int c = i + k < text.length() ? text.charAt(i + k) : below(256);
                five[k / 4] = five[k / 4] << 8 | c;
            }
            good = call("feed", five);
        }
        return good && call("end", five(text.length(), 0, 0, 0)) && call("text", new int[5])
                && call("fault", five(0, 0, 0, 0)) && call("fault", five(1, 0, 0, 0))
                && (below(2) == 0 || call("by", five(about(3) - 1, 0, 0, 0)));
    }

    private int about(int what) {
        return (int) model.about(what);
    }

    private int below(int n) {
        return random.nextInt(n);
    }

    /** Mostly from lo to hi, at times just outside or anywhere. */
    private int near(int lo, int hi) {
        switch (below(40)) {
            case 0:
                return lo - 1;
            case 1:
                return hi + 1;
            case 2:
                int[] wild = {Integer.MIN_VALUE, Integer.MAX_VALUE, random.nextInt(), -2, 0, 1 << 31 >> below(32)};
                return wild[below(wild.length)];
            case 3:
                return lo;
            case 4:
                return hi;
            default:
                return hi < lo ? lo : lo + below(hi - lo + 1);
        }
    }

    private int someTown() {
        return near(0, about(0) - 1);
    }

    private int someBone() {
        return near(0, about(1) - 1);
    }

    private int someSeen() {
        return near(0, about(6) - 1);
    }

    private int someSet() {
        int all = (1 << about(0)) - 1;
        return below(3) == 0 ? near(0, all) : below(2) == 0 ? all : all & ~(1 << below(10));
    }

    private int[] arguments(String call, int sort) {
        int wide = sort == 0 ? 100 : 25;
        switch (call) {
            case "town":
                return five(near(0, wide - 1), near(0, wide - 1), 0, 0);
            case "bone":
                return five(near(0, below(2) == 0 ? 19 : 3), near(1, below(2) == 0 ? 999 : 20), someTown(), 0);
            case "prove":
                return five(someTown(), someBone(), 0, 0);
            case "feed":
                return random.ints(5).toArray();
            case "end":
                return five(near(0, about(9)), 0, 0, 0);
            case "fault":
            case "best":
                return five(near(0, 1), 0, 0, 0);
            case "by":
            case "played":
                return five(near(-1, about(3) - 1), 0, 0, 0);
            case "lend":
                return five(someBone(), someTown(), near(1, below(3) == 0 ? 99 : 6), 0);
            case "swap":
                return five(someBone(), someBone(), 0, 0);
            case "steal":
                return five(someBone(), someTown(), 0, 0);
            case "burn":
                return five(someTown(), 0, 0, 0);
            case "pass":
                return five(near(0, below(6) == 0 ? 99 : 6), 0, 0, 0);
            case "of":
                return five(someBone(), near(0, 6), 0, 0);
            case "saints":
                return five(someSet(), below(3) == 0 ? -1 : someBone(), 0, 0);
            default:
                return moreArguments(call);
        }
    }

    private int[] moreArguments(String call) {
        switch (call) {
            case "rules":
                return five(near(0, 9), near(1, below(2) == 0 ? 99 : 12), 0, 0);
            case "seen":
                return five(someTown(), near(0, below(3) == 0 ? 19 : 1), near(1, below(2) == 0 ? 999 : 12),
                        near(0, below(4) == 0 ? 999 : 12));
            case "same":
                return five(someSeen(), someSeen(), 0, 0);
            case "led":
                return five(someSeen(), 0, 0, 0);
            case "chance":
                int n = near(0, 20);
                return five(n, near(0, Math.max(0, Math.min(n, 20))), near(0, 6), near(0, 1));
            case "round":
                return five(someSet(), near(-1, 7), 0, 0);
            case "pilgrims":
                return five(near(0, 9999), near(1, 99), near(0, 6), someTown());
            case "about":
                return five(near(0, 29), 0, 0, 0);
            default:
                return five(0, 0, 0, 0);
        }
    }

    private static int[] five(int a, int b, int c, int d) {
        return new int[] {a, b, c, d, 0};
    }

    private boolean call(String name, int[] a) {
        calls++;
        if (calls > 512) {
            return true;
        }
        long due = Both.model(model, name, a);
        log.append(name).append(java.util.Arrays.toString(a)).append(" -> ").append(due).append('\n');
        long got = Both.graves(graves, name, a);
        if (got != due) {
            log.append("but answered ").append(got).append('\n');
            return false;
        }
        return true;
    }
}
