import java.util.Random;

/**
 * Runs of 512 calls with any ints as arguments, on the class and on the model, which must answer alike; and runs of the
 * dearest calls on the class alone. No call throws, and each run ends soon.
 */
public final class WildRunsTest {
    private static final String[] CALLS = {
        "town", "bone", "prove", "feed", "end", "text", "fault", "by", "lend", "swap", "steal", "burn", "pass",
        "played", "undo", "of", "saints", "rules", "seen", "forget", "same", "best", "histories", "led", "chance",
        "round", "pilgrims", "image", "back", "about"};
    private static final int MOST_CALLS = 512;
    // Far above what any of them takes, so that a slow machine does not matter.
    private static final long MOST_MILLIS = 60000;

    private static int wrong;

    private WildRunsTest() {
    }

    public static void main(String[] args) {
        int runs = Integer.getInteger("runs", 600);
        for (int seed = 0; seed < runs && wrong < 3; seed++) {
            wild(new Random(seed), seed);
        }
        for (int seed = 0; seed < 6; seed++) {
            long start = System.nanoTime();
            dearest(new Random(seed));
            long millis = (System.nanoTime() - start) / 1000000;
            if (millis > MOST_MILLIS) {
                wrong++;
                System.out.println("the dearest calls, seed " + seed + ": " + millis + " milliseconds");
            }
        }
        System.out.println(wrong == 0 ? runs + " wild runs answered as the model does" : wrong + " wild runs did not");
        if (wrong != 0) {
            System.exit(1);
        }
    }

    /** In the first runs hardly an argument is right; in the later ones most are, so that there is much to be spoiled. */
    private static void wild(Random random, int seed) {
        NineGraves x = new NineGraves();
        Model model = new Model();
        StringBuilder log = new StringBuilder();
        int right = seed % 4;
        for (int i = 0; i < MOST_CALLS; i++) {
            String name = CALLS[random.nextInt(CALLS.length)];
            int[] a = new int[5];
            for (int k = 0; k < 5; k++) {
                a[k] = random.nextInt(4) < right ? small(random) : any(random);
            }
            long due = Both.model(model, name, a);
            log.append(name).append(java.util.Arrays.toString(a)).append(" -> ").append(due).append('\n');
            long got;
            try {
                got = Both.graves(x, name, a);
            } catch (RuntimeException | StackOverflowError e) {
                wrong++;
                System.out.println("seed " + seed + ":\n" + log + "but it threw " + e);
                return;
            }
            if (got != due) {
                wrong++;
                System.out.println("seed " + seed + ":\n" + log + "but answered " + got);
                return;
            }
        }
    }

    private static int small(Random random) {
        return random.nextInt(random.nextInt(3) == 0 ? 100 : 5);
    }

    private static int any(Random random) {
        switch (random.nextInt(6)) {
            case 0:
                return Integer.MIN_VALUE + random.nextInt(3);
            case 1:
                return Integer.MAX_VALUE - random.nextInt(3);
            case 2:
                return -1 - random.nextInt(3);
            case 3:
                return (1 << random.nextInt(32)) + random.nextInt(3) - 1;
            default:
                return random.nextInt();
        }
    }

    /** Twelve BONES that clash by chance, and all years that can pass; something changes ahead of each call. */
    private static void dearest(Random random) {
        NineGraves x = new NineGraves();
        for (int i = 0; i < 10; i++) {
            x.town(random.nextInt(100), random.nextInt(100));
        }
        for (int i = 0; i < 12; i++) {
            x.bone(i / 2, 1 + random.nextInt(999), i % 10);
            x.seen(i % 3, 0, 500 - i % 2, i);
        }
        StringBuilder text = new StringBuilder("unlike weight*oweight/7-weight*oweight/14*2=1");
        while (text.length() < 270) {
            text.append(" or 0*(weight)>1");
        }
        text.append(";kind 1 many 2;");
        for (int i = 0; i < text.length(); i += 20) {
            int[] five = new int[5];
            for (int k = 0; k < 20; k++) {
                five[k / 4] = five[k / 4] << 8 | (i + k < text.length() ? text.charAt(i + k) : ' ');
            }
            x.feed(five[0], five[1], five[2], five[3], five[4]);
        }
        if (x.text() != 0 || !x.by(0)) {
            wrong++;
            System.out.println("the law of the dearest calls is not taken");
        }
        for (int calls = 60; calls + 8 <= MOST_CALLS; calls += 8) {
            x.rules(9, 1 + calls % 99);
            x.histories();
            x.saints(1023, -1);
            x.round(255, -1);
            x.pass(99);
            x.saints(1023, -1);
            x.undo();
            x.pilgrims(calls, 99, 3, 0);
        }
    }
}
