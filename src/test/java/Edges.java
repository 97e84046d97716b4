import java.util.ArrayList;
import java.util.List;
import java.util.Set;
import java.util.TreeMap;

/**
 * Tests of single sentences of the document. A test is the sentence and a run of calls on a new object, a line each:
 * <pre>
 * town 5 5              it is done, whatever it answers
 * town 5 5 => 0         and answers 0 (true counts 1)
 * town 100 5 =! -1      it is refused: it answers -1 and changes nothing
 * 20 * pass 1 => 9      twenty times, the answer being of the last time
 * tape worn 1;          the tape has these bytes alone ({233} is byte 233)
 * told worn 1; => 0     the same, and it is read as a text
 * </pre>
 * That a call changes nothing is seen by two more objects with the same run, one of them without that call, of which
 * everything is asked. Calls that only ask are looked at in the same way each time.
 */
final class Edges {
    private static final int MOST_CALLS = 512;
    private static final int WILDEST = 1 << 20;
    private static final Set<String> ONLY_ASK = Set.of("fault", "of", "saints", "same", "best", "histories", "led",
            "chance", "round", "pilgrims", "about");

    /** One call of a run. */
    private static final class Call {
        final String name;
        final int[] arguments;

        Call(String name, int... arguments) {
            this.name = name;
            this.arguments = arguments;
        }

        long on(NineGraves x) {
            return Both.graves(x, name, arguments);
        }

        @Override
        public String toString() {
            StringBuilder s = new StringBuilder(name);
            for (int a : arguments) {
                s.append(' ').append(a);
            }
            return s.toString();
        }
    }

    private final String document;
    private final boolean[] quoted;
    private final TreeMap<Integer, Integer> tests = new TreeMap<>();
    private int answers;
    private int wrong;

    private int promise;
    private String sentence;
    private NineGraves x;
    private final List<Call> done = new ArrayList<>();

    Edges(String document) {
        this.document = plain(document);
        quoted = new boolean[this.document.length()];
    }

    private static String plain(String text) {
        return text.replaceAll("\\s+", " ").trim();
    }

    private void fail(String what) {
        wrong++;
        System.out.println("promise " + promise + ", \"" + sentence + "\": " + what);
    }

    /** The test of a sentence (which the document must have) by a run of calls. */
    void at(int number, String words, String... runs) {
        promise = number;
        sentence = words;
        quote(plain(words));
        tests.merge(number, 1, Integer::sum);
        for (String run : runs) {
            int before = answers;
            x = new NineGraves();
            done.clear();
            for (String line : run.split("\n")) {
                if (!line.isEmpty()) {
                    line(line);
                }
            }
            if (answers == before) {
                fail("nothing is asked in it");
            }
        }
    }

    private void quote(String words) {
        int from = document.indexOf(words);
        if (from < 0) {
            fail("the document has no such words");
        }
        for (; from >= 0; from = document.indexOf(words, from + 1)) {
            java.util.Arrays.fill(quoted, from, from + words.length(), true);
        }
    }

    private void line(String line) {
        String call = line;
        String due = null;
        int taken = line.lastIndexOf(" => ");
        int refused = line.lastIndexOf(" =! ");
        if (Math.max(taken, refused) >= 0) {
            call = line.substring(0, Math.max(taken, refused));
            due = line.substring(Math.max(taken, refused) + 4).trim();
        }
        int times = 1;
        int star = call.indexOf(" * ");
        if (star > 0 && call.substring(0, star).matches("[0-9]+")) {
            times = Integer.parseInt(call.substring(0, star));
            call = call.substring(star + 3);
        }
        for (int i = 0; i < times; i++) {
            boolean last = i == times - 1;
            step(call, last ? due : null, refused > taken);
        }
    }

    private void step(String line, String due, boolean refused) {
        String name = line.indexOf(' ') < 0 ? line : line.substring(0, line.indexOf(' '));
        if (name.equals("tape") || name.equals("told")) {
            tape(line.length() == 4 ? "" : line.substring(5));
            if (name.equals("tape")) {
                return;
            }
            check(new Call("text"), due, refused);
            return;
        }
        String[] words = line.split(" +");
        int[] arguments = new int[words.length - 1];
        for (int i = 0; i < arguments.length; i++) {
            arguments[i] = number(words[i + 1]);
        }
        check(new Call(name, arguments), due, refused);
    }

    static int number(String word) {
        switch (word) {
            case "MIN":
                return Integer.MIN_VALUE;
            case "MAX":
                return Integer.MAX_VALUE;
            default:
                return Integer.parseInt(word);
        }
    }

    /** {233} is the byte 233. */
    static String bytes(String text) {
        StringBuilder s = new StringBuilder();
        for (int i = 0; i < text.length(); i++) {
            int behind = text.indexOf('}', i);
            if (text.charAt(i) == '{' && behind > i) {
                s.append((char) Integer.parseInt(text.substring(i + 1, behind)));
                i = behind;
            } else {
                s.append(text.charAt(i));
            }
        }
        return s.toString();
    }

    private void tape(String line) {
        String text = bytes(line);
        check(new Call("end", 0), "0", false);
        for (int i = 0; i < text.length(); i += 20) {
            int[] five = new int[5];
            for (int k = 0; k < 20; k++) {
                five[k / 4] = five[k / 4] << 8 | (i + k < text.length() ? text.charAt(i + k) : 0);
            }
            check(new Call("feed", five), Integer.toString(i + 20), false);
        }
        check(new Call("end", text.length()), Integer.toString(text.length()), false);
    }

    private void check(Call call, String due, boolean refused) {
        long got = call.on(x);
        if (due != null) {
            answers++;
            if (got != Long.parseLong(due)) {
                fail(call + " answered " + got + ", due is " + due + ", behind " + done);
            }
        }
        if (refused || (due != null && ONLY_ASK.contains(call.name))) {
            unchanged(call);
        }
        done.add(call);
        if (done.size() > MOST_CALLS) {
            fail("a run of more than " + MOST_CALLS + " calls");
        }
    }

    /** The call, behind what was done, changes nothing that can be asked for. */
    private void unchanged(Call call) {
        NineGraves with = new NineGraves();
        NineGraves without = new NineGraves();
        for (Call c : done) {
            c.on(with);
            c.on(without);
        }
        call.on(with);
        for (Call c : picture()) {
            long one = c.on(with);
            long other = c.on(without);
            if (one != other) {
                fail(call + " changed something: then " + c + " answered " + one + " instead of " + other + ", behind " + done);
                return;
            }
        }
    }

    /** All that can be asked of the object as it is now, and what comes when it is taken back. */
    private List<Call> picture() {
        NineGraves y = new NineGraves();
        for (Call c : done) {
            c.on(y);
        }
        int towns = y.about(0);
        int bones = y.about(1);
        int texts = y.about(3);
        int steps = y.about(5);
        int seen = y.about(6);
        List<Call> all = new ArrayList<>();
        for (int i = 0; i < 30; i++) {
            all.add(new Call("about", i));
        }
        all.add(new Call("fault", 0));
        all.add(new Call("fault", 1));
        for (int i = 0; i < bones; i++) {
            for (int what = 0; what < 7; what++) {
                all.add(new Call("of", i, what));
            }
        }
        all.add(new Call("saints", (1 << towns) - 1, -1));
        all.add(new Call("pilgrims", 77, 99, 3, 0));
        askSeen(all, seen);
        for (int i = 1; i < towns; i++) {
            all.add(new Call("round", 1 << i | 1 << i - 1, -1));
        }
        askSteps(all, Math.min(bones, 3), steps, texts);
        int room = Math.max(0, MOST_CALLS - done.size() - 1);
        return all.subList(0, Math.min(room, all.size()));
    }

    private static void askSeen(List<Call> all, int seen) {
        all.add(new Call("best", 0));
        all.add(new Call("best", 1));
        all.add(new Call("histories"));
        for (int i = 0; i < seen; i++) {
            all.add(new Call("led", i));
            all.add(new Call("same", i, (i + 1) % seen));
            all.add(new Call("same", (i + 1) % seen, i));
        }
    }

    /** Last, for these change things: the texts, the tape, the steps and the image. */
    private static void askSteps(List<Call> all, int bones, int steps, int texts) {
        all.add(new Call("text"));
        all.add(new Call("fault", 0));
        all.add(new Call("fault", 1));
        for (int i = 0; i < steps; i++) {
            all.add(new Call("undo"));
            all.add(new Call("about", 2));
            for (int b = 0; b < bones; b++) {
                all.add(new Call("of", b, 1));
                all.add(new Call("of", b, 3));
                all.add(new Call("of", b, 5));
            }
        }
        for (int i = 0; i < texts; i++) {
            all.add(new Call("by", i));
            all.add(new Call("played", i));
            for (int b = 0; b < bones; b++) {
                all.add(new Call("of", b, 6));
            }
        }
        all.add(new Call("back"));
        for (int i = 0; i < 10; i++) {
            all.add(new Call("about", i));
        }
        for (int b = 0; b < bones; b++) {
            all.add(new Call("of", b, 1));
            all.add(new Call("of", b, 3));
        }
    }

    /**
     * A good call whose arguments go from one number to another each ("0 .. 99"): just outside of them, and far
     * outside, each is refused with that answer; from both ends on it is not. "any": that argument is not tried.
     */
    void others(int number, String words, String setup, String call, long refusal, String... ranges) {
        String[] good = call.split(" ");
        for (int i = 0; i < ranges.length; i++) {
            if (ranges[i].equals("any")) {
                continue;
            }
            String[] ends = ranges[i].split(" \\.\\. ");
            int least = Integer.parseInt(ends[0]);
            int most = Integer.parseInt(ends[1]);
            StringBuilder lines = new StringBuilder(setup);
            for (int value : outside(least, most)) {
                String[] bad = good.clone();
                bad[i + 1] = Integer.toString(value);
                lines.append(String.join(" ", bad)).append(" =! ").append(refusal).append('\n');
            }
            at(number, words, lines.toString());
            for (int value : new int[] {least, most}) {
                String[] edge = good.clone();
                edge[i + 1] = Integer.toString(value);
                taken(setup, String.join(" ", edge), refusal);
            }
        }
    }

    private void taken(String setup, String call, long refusal) {
        x = new NineGraves();
        done.clear();
        for (String line : setup.split("\n")) {
            if (!line.isEmpty()) {
                line(line);
            }
        }
        line(call);
        answers++;
        NineGraves y = new NineGraves();
        long last = 0;
        for (Call c : done) {
            last = c.on(y);
        }
        if (last == refusal) {
            fail(call + " is refused behind " + done.subList(0, done.size() - 1));
        }
    }

    /** The first ones outside, the last ints, and some that would be inside if they were cut to fewer bits. */
    private static List<Integer> outside(int least, int most) {
        List<Integer> all = new ArrayList<>();
        long[] some = {least - 1L, most + 1L, least - 2L, most + 2L, -WILDEST, WILDEST, Integer.MIN_VALUE, Integer.MAX_VALUE,
            Integer.MIN_VALUE + 1L, Integer.MAX_VALUE - 1L, Integer.MIN_VALUE + (long) least, Integer.MIN_VALUE + (long) most,
            least + 16L, least + 32L, least + 64L, least + 256L, least + 1024L, least + 65536L, least - 32L, least - 256L,
            least - 65536L};
        for (long s : some) {
            boolean isInt = s >= Integer.MIN_VALUE && s <= Integer.MAX_VALUE;
            if (isInt && (s < least || s > most) && !all.contains((int) s)) {
                all.add((int) s);
            }
        }
        return all;
    }

    /** What the tests came to; true if all is well. */
    boolean report(int promises) {
        for (int i = 1; i <= promises; i++) {
            if (!tests.containsKey(i)) {
                wrong++;
                System.out.println("promise " + i + " has no test of an edge");
            }
        }
        int sum = 0;
        for (int n : tests.values()) {
            sum += n;
        }
        System.out.println(sum + " tests of sentences, " + answers + " answers, " + wrong + " not as due");
        return wrong == 0;
    }

    /** What of the document no test quotes. */
    String unquoted() {
        StringBuilder s = new StringBuilder();
        for (int i = 0; i < quoted.length; i++) {
            if (!quoted[i]) {
                s.append(document.charAt(i));
            } else if (i > 0 && !quoted[i - 1]) {
                s.append("\n");
            }
        }
        return s.toString();
    }
}
