import java.math.BigInteger;
import java.util.ArrayList;
import java.util.Arrays;
import java.util.List;
import java.util.function.Function;
import java.util.regex.Matcher;
import java.util.regex.Pattern;

/**
 * The document once more, written as plainly as can be and apart from the class: copies instead of rows that are
 * used again, trees instead of code, and every HISTORY, ROUND and sharing tried in turn.
 */
final class Model {
    static final class Bone implements Cloneable {
        int kind;
        int weight;
        int owner;
        int at;
        int due = -1;

        Bone copy() {
            try {
                return (Bone) clone();
            } catch (CloneNotSupportedException e) {
                throw new IllegalStateException(e);
            }
        }
    }

    /** BONES, PROOFS and YEAR: what a STEP changes. */
    static final class Things {
        final List<Bone> bones = new ArrayList<>();
        final boolean[][] proofs = new boolean[10][16];
        int year;

        Things copy() {
            Things t = new Things();
            for (Bone b : bones) {
                t.bones.add(b.copy());
            }
            for (int i = 0; i < 10; i++) {
                t.proofs[i] = proofs[i].clone();
            }
            t.year = year;
            return t;
        }
    }

    static final class State {
        final List<int[]> towns = new ArrayList<>();
        Things things = new Things();
        final List<Things> steps = new ArrayList<>();
        final List<Script> texts = new ArrayList<>();
        int theText = -1;
        final List<int[]> seen = new ArrayList<>();
        int loss = 1;
        int pace = 10;

        State copy() {
            State s = new State();
            s.towns.addAll(towns);
            s.things = things.copy();
            for (Things t : steps) {
                s.steps.add(t.copy());
            }
            s.texts.addAll(texts);
            s.theText = theText;
            s.seen.addAll(seen);
            s.loss = loss;
            s.pace = pace;
            return s;
        }
    }

    static final class Env {
        Bone one;
        Bone other;
        int proofs;
        int year;
    }

    interface Sum extends Function<Env, Long> {
    }

    interface Ask extends Function<Env, Boolean> {
    }

    static final class Script {
        Sum worn;
        Ask holy;
        Ask unlike;
        final int[] many = new int[20];
        final List<Object[]> clauses = new ArrayList<>();
    }

    static final class Fault extends Exception {
        private static final long serialVersionUID = 1L;
        final int number;
        final int place;

        Fault(int number, int place) {
            this.number = number;
            this.place = place;
        }
    }

    private State now = new State();
    private State image = new State();
    private String tape = "";
    private int fault = -1;
    private int place = -1;

    private Things things() {
        return now.things;
    }

    private boolean isTown(int t) {
        return 0 <= t && t < now.towns.size();
    }

    private boolean isBone(int b) {
        return 0 <= b && b < things().bones.size();
    }

    private static boolean in(int v, int lo, int hi) {
        return lo <= v && v <= hi;
    }

    private int miles(int a, int b) {
        int[] p = now.towns.get(a);
        int[] q = now.towns.get(b);
        return Math.abs(p[0] - q[0]) + Math.abs(p[1] - q[1]);
    }

    private void step() {
        now.steps.add(things().copy());
        if (now.steps.size() > 20) {
            now.steps.remove(0);
        }
    }

    // ---- the face

    long town(int x, int y) {
        if (now.towns.size() == 10 || !in(x, 0, 99) || !in(y, 0, 99)) {
            return -1;
        }
        now.towns.add(new int[] {x, y});
        return now.towns.size() - 1;
    }

    long bone(int kind, int weight, int owner) {
        if (things().bones.size() == 16 || !in(kind, 0, 19) || !in(weight, 1, 999) || !isTown(owner)) {
            return -1;
        }
        Bone b = new Bone();
        b.kind = kind;
        b.weight = weight;
        b.owner = owner;
        b.at = owner;
        things().bones.add(b);
        // Told since those STEPS: it is as it was told when they are taken back.
        for (Things t : now.steps) {
            t.bones.add(b.copy());
        }
        return things().bones.size() - 1;
    }

    long prove(int town, int bone) {
        if (!isTown(town) || !isBone(bone) || things().proofs[town][bone]) {
            return 0;
        }
        step();
        things().proofs[town][bone] = true;
        return 1;
    }

    long feed(int a, int b, int c, int d, int e) {
        if (tape.length() + 20 > 300) {
            return -1;
        }
        StringBuilder s = new StringBuilder(tape);
        for (int v : new int[] {a, b, c, d, e}) {
            s.append((char) (v >>> 24)).append((char) (v >>> 16 & 255));
            s.append((char) (v >>> 8 & 255)).append((char) (v & 255));
        }
        tape = s.toString();
        return tape.length();
    }

    long end(int n) {
        if (n < 0 || n > tape.length()) {
            return -1;
        }
        tape = tape.substring(0, n);
        return n;
    }

    long text() {
        if (now.texts.size() == 4) {
            return -1;
        }
        String bytes = tape;
        tape = "";
        fault = 0;
        place = -1;
        try {
            now.texts.add(new Grammar(bytes).script());
            return now.texts.size() - 1;
        } catch (Fault f) {
            fault = f.number;
            place = f.place;
            return -1;
        }
    }

    long fault(int what) {
        return what == 0 ? fault : what == 1 ? place : -1;
    }

    long by(int text) {
        if (text != -1 && !in(text, 0, now.texts.size() - 1)) {
            return 0;
        }
        now.theText = text;
        return 1;
    }

    long lend(int bone, int town, int years) {
        if (!isBone(bone) || !isTown(town) || !in(years, 1, 99) || things().year + years > 999) {
            return -1;
        }
        Bone b = things().bones.get(bone);
        if (b.at != b.owner || b.due != -1 || b.at == town) {
            return -1;
        }
        step();
        b.at = town;
        b.due = things().year + years;
        return b.due;
    }

    long swap(int one, int other) {
        if (!isBone(one) || !isBone(other)) {
            return 0;
        }
        Bone a = things().bones.get(one);
        Bone b = things().bones.get(other);
        if (a.at == b.at) {
            return 0;
        }
        step();
        int t = a.at;
        a.at = b.at;
        b.at = t;
        return 1;
    }

    long steal(int bone, int town) {
        if (!isBone(bone) || !isTown(town) || things().bones.get(bone).at == town) {
            return 0;
        }
        step();
        Bone b = things().bones.get(bone);
        b.at = town;
        b.owner = town;
        b.due = -1;
        return 1;
    }

    long burn(int town) {
        if (!isTown(town)) {
            return -1;
        }
        step();
        int n = 0;
        for (int i = 0; i < 16; i++) {
            if (things().proofs[town][i]) {
                n++;
            }
            things().proofs[town][i] = false;
        }
        return n;
    }

    long pass(int years) {
        if (!in(years, 0, 99) || things().year + years > 999) {
            return -1;
        }
        step();
        Script law = law();
        for (int y = 0; y < years; y++) {
            things().year++;
            for (int i = 0; i < things().bones.size(); i++) {
                Bone b = things().bones.get(i);
                if (law != null && law.worn != null) {
                    long w = law.worn.apply(env(i, i));
                    b.weight = (int) Math.max(1, b.weight - Math.max(0, w));
                }
                if (b.due == things().year) {
                    b.due = -1;
                    b.at = b.owner;
                }
            }
        }
        return things().year;
    }

    long played(int text) {
        if (!in(text, 0, now.texts.size() - 1)) {
            return -2;
        }
        List<Object[]> clauses = now.texts.get(text).clauses;
        for (int i = 0; i < clauses.size(); i++) {
            Object[] c = clauses.get(i);
            boolean done;
            switch ((String) c[0]) {
                case "lend":
                    done = lend((Integer) c[1], (Integer) c[2], (Integer) c[3]) != -1;
                    break;
                case "swap":
                    done = swap((Integer) c[1], (Integer) c[2]) == 1;
                    break;
                case "steal":
                    done = steal((Integer) c[1], (Integer) c[2]) == 1;
                    break;
                case "burn":
                    done = burn((Integer) c[1]) != -1;
                    break;
                case "pass":
                    done = pass((Integer) c[1]) != -1;
                    break;
                default:
                    done = true;
            }
            if (!done) {
                return i;
            }
        }
        return -1;
    }

    long undo() {
        if (now.steps.isEmpty()) {
            return -1;
        }
        now.things = now.steps.remove(now.steps.size() - 1);
        return now.steps.size();
    }

    long of(int bone, int what) {
        if (!isBone(bone)) {
            return -2;
        }
        Bone b = things().bones.get(bone);
        switch (what) {
            case 0: return b.kind;
            case 1: return b.weight;
            case 2: return b.owner;
            case 3: return b.at;
            case 4: return b.due;
            case 5: return env(bone, bone).proofs;
            case 6: return holy(bone) ? 1 : 0;
            default: return -2;
        }
    }

    private Script law() {
        return now.theText == -1 ? null : now.texts.get(now.theText);
    }

    private Env env(int one, int other) {
        Env e = new Env();
        e.one = things().bones.get(one);
        e.other = things().bones.get(other);
        e.year = things().year;
        for (int t = 0; t < 10; t++) {
            if (things().proofs[t][one]) {
                e.proofs++;
            }
        }
        return e;
    }

    private boolean holy(int bone) {
        return law() == null || law().holy == null || law().holy.apply(env(bone, bone));
    }

    private boolean apart(int a, int b) {
        return law() != null && law().unlike != null
                && (law().unlike.apply(env(a, b)) || law().unlike.apply(env(b, a)));
    }

    // ---- saints

    private List<Integer> shared;
    private boolean[][] apart;
    private int[] trial;
    private int[] sharing;
    private int sharingSaints;

    long saints(int set, int bone) {
        if (set < 0 || set >= 1 << now.towns.size() || (bone != -1 && !isBone(bone))) {
            return -2;
        }
        shared = new ArrayList<>();
        for (int i = 0; i < things().bones.size(); i++) {
            if ((set >> things().bones.get(i).at & 1) == 1 && holy(i)) {
                shared.add(i);
            }
        }
        int n = shared.size();
        if (n > 12) {
            return -2;
        }
        apart = new boolean[n][n];
        for (int i = 0; i < n; i++) {
            for (int j = 0; j < n; j++) {
                apart[i][j] = i != j && apart(shared.get(i), shared.get(j));
            }
        }
        trial = new int[n];
        sharing = null;
        sharingSaints = n + 1;
        trySharing(0, 0);
        return bone == -1 ? sharingSaints : shared.contains(bone) ? sharing[shared.indexOf(bone)] : -1;
    }

    /** All sharings in the order of the document; a later one is better only with fewer SAINTS. */
    private void trySharing(int i, int saints) {
        if (saints >= sharingSaints) {
            return;
        }
        if (i == trial.length) {
            sharingSaints = saints;
            sharing = trial.clone();
            return;
        }
        int kind = things().bones.get(shared.get(i)).kind;
        int many = law() == null || law().many[kind] == 0 ? 1 : law().many[kind];
        for (int s = 0; s <= saints; s++) {
            int like = 0;
            boolean good = true;
            for (int j = 0; j < i; j++) {
                if (trial[j] == s) {
                    like += things().bones.get(shared.get(j)).kind == kind ? 1 : 0;
                    good &= !apart[i][j];
                }
            }
            if (good && like < many) {
                trial[i] = s;
                trySharing(i + 1, Math.max(saints, s + 1));
            }
        }
    }

    // ---- histories

    private int[] ahead;
    private boolean[] used;
    private int[] first;
    private int fewestBones;
    private int fewestThefts;
    private long ways;

    long rules(int loss, int pace) {
        if (!in(loss, 0, 9) || !in(pace, 1, 99)) {
            return 0;
        }
        now.loss = loss;
        now.pace = pace;
        return 1;
    }

    long seen(int town, int kind, int weight, int year) {
        if (now.seen.size() == 12 || !isTown(town) || !in(kind, 0, 19) || !in(weight, 1, 999) || !in(year, 0, 999)) {
            return -1;
        }
        now.seen.add(new int[] {town, kind, weight, year});
        return now.seen.size() - 1;
    }

    long forget() {
        int n = now.seen.size();
        now.seen.clear();
        return n;
    }

    long same(int ahead, int one) {
        int n = now.seen.size();
        if (!in(ahead, 0, n - 1) || !in(one, 0, n - 1)) {
            return 0;
        }
        int[] a = now.seen.get(ahead);
        int[] b = now.seen.get(one);
        int years = b[3] - a[3];
        return a[1] == b[1] && years > 0 && b[2] <= a[2] && a[2] - b[2] <= now.loss * years
                && miles(a[0], b[0]) / now.pace <= years ? 1 : 0;
    }

    private void allHistories() {
        int n = now.seen.size();
        ahead = new int[n];
        used = new boolean[n];
        first = new int[n];
        fewestBones = n + 1;
        fewestThefts = 0;
        ways = 0;
        tryHistory(0, 0, 0);
    }

    private void tryHistory(int i, int bones, int thefts) {
        if (bones > fewestBones) {
            return;
        }
        if (i == ahead.length) {
            if (bones < fewestBones || thefts < fewestThefts) {
                fewestBones = bones;
                fewestThefts = thefts;
                ways = 0;
                first = ahead.clone();
            }
            if (thefts == fewestThefts) {
                ways++;
            }
            return;
        }
        ahead[i] = -1;
        tryHistory(i + 1, bones + 1, thefts);
        for (int a = 0; a < ahead.length; a++) {
            if (!used[a] && same(a, i) == 1) {
                used[a] = true;
                ahead[i] = a;
                tryHistory(i + 1, bones, thefts + (now.seen.get(a)[0] != now.seen.get(i)[0] ? 1 : 0));
                used[a] = false;
            }
        }
    }

    long best(int what) {
        allHistories();
        return what == 0 ? fewestBones : what == 1 ? fewestThefts : -1;
    }

    long histories() {
        allHistories();
        return ways;
    }

    long led(int one) {
        if (!in(one, 0, now.seen.size() - 1)) {
            return -2;
        }
        allHistories();
        return first[one];
    }

    // ---- chance, rounds, pilgrims

    long chance(int n, int h, int c, int what) {
        if (!in(n, 0, 20) || !in(c, 0, 6) || !in(h, 0, n) || !in(what, 0, 1)) {
            return -1;
        }
        // how[k]: in how many of 6 ^ n ways k are healed
        BigInteger[] how = new BigInteger[n + 2];
        Arrays.fill(how, BigInteger.ZERO);
        how[0] = BigInteger.ONE;
        for (int i = 0; i < n; i++) {
            for (int k = i + 1; k >= 0; k--) {
                BigInteger not = how[k].multiply(BigInteger.valueOf(6 - c));
                how[k] = k == 0 ? not : not.add(how[k - 1].multiply(BigInteger.valueOf(c)));
            }
        }
        BigInteger upper = BigInteger.ZERO;
        for (int k = h; k <= n; k++) {
            upper = upper.add(how[k]);
        }
        BigInteger lower = BigInteger.valueOf(6).pow(n);
        BigInteger g = upper.gcd(lower);
        return (what == 0 ? upper : lower).divide(g).longValueExact();
    }

    private int roundMiles;
    private List<Integer> bestRound;

    long round(int set, int i) {
        if (set <= 0 || set >= 1 << now.towns.size() || Integer.bitCount(set) > 8) {
            return -1;
        }
        List<Integer> rest = new ArrayList<>();
        for (int t = 0; t < now.towns.size(); t++) {
            if ((set >> t & 1) == 1) {
                rest.add(t);
            }
        }
        roundMiles = Integer.MAX_VALUE;
        List<Integer> way = new ArrayList<>();
        way.add(rest.remove(0));
        tryRound(way, rest, 0);
        return i == -1 ? roundMiles : in(i, 0, bestRound.size() - 1) ? bestRound.get(i) : -1;
    }

    private void tryRound(List<Integer> way, List<Integer> rest, int sum) {
        int last = way.get(way.size() - 1);
        if (rest.isEmpty()) {
            int all = sum + miles(last, way.get(0));
            if (all < roundMiles) {
                roundMiles = all;
                bestRound = new ArrayList<>(way);
            }
            return;
        }
        for (int k = 0; k < rest.size(); k++) {
            int t = rest.remove(k);
            way.add(t);
            tryRound(way, rest, sum + miles(last, t));
            way.remove(way.size() - 1);
            rest.add(k, t);
        }
    }

    private long x;

    private int draw(int m) {
        int d = (int) (x % m);
        x = (x * 173 + 41) % 30103;
        return d;
    }

    long pilgrims(int seed, int n, int c, int town) {
        if (!in(seed, 0, 9999) || !in(n, 1, 99) || !in(c, 0, 6) || !isTown(town)) {
            return -1;
        }
        x = seed * 7L + 15;
        int[] healed = new int[10];
        for (int i = 0; i < n; i++) {
            int t = draw(now.towns.size());
            boolean can = false;
            for (int b = 0; b < things().bones.size(); b++) {
                can |= things().bones.get(b).at == t && holy(b);
            }
            if (can && draw(6) < c) {
                healed[t]++;
            }
        }
        return healed[town];
    }

    long image() {
        image = now.copy();
        return things().year;
    }

    long back() {
        now = image.copy();
        return things().year;
    }

    long about(int what) {
        switch (what) {
            case 0: return now.towns.size();
            case 1: return things().bones.size();
            case 2: return things().year;
            case 3: return now.texts.size();
            case 4: return now.theText;
            case 5: return now.steps.size();
            case 6: return now.seen.size();
            case 7: return now.loss;
            case 8: return now.pace;
            case 9: return tape.length();
            default: break;
        }
        int n = 0;
        if (in(what, 10, 19) && isTown(what - 10)) {
            for (boolean b : things().proofs[what - 10]) {
                n += b ? 1 : 0;
            }
            return n;
        }
        if (in(what, 20, 29) && isTown(what - 20)) {
            for (Bone b : things().bones) {
                n += b.at == what - 20 ? 1 : 0;
            }
            return n;
        }
        return -2;
    }

    // ---- the language

    static final class Grammar {
        private static final Pattern TOKEN = Pattern.compile("[a-zA-Z]+|[0-9]+|<=|>=|[<>=#+*/();-]");
        private static final List<String> LAWS = List.of("worn", "holy", "unlike");
        private static final List<String> CLAUSES =
                List.of("worn", "holy", "unlike", "kind", "lend", "swap", "steal", "burn", "pass");
        private static final List<String> NAMES = List.of("sort", "weight", "town", "proofs", "year");
        private static final List<String> OTHER_NAMES = List.of("osort", "oweight", "otown");
        private static final List<String> SIGNS = List.of("<", "<=", ">", ">=", "=", "#");

        private final String bytes;
        private int next;
        private String token;
        private int start;
        private boolean ofTwo;
        private int open;

        Grammar(String bytes) {
            this.bytes = bytes;
            advance();
        }

        /** The token is "" at the end and "?" if it is none. */
        private void advance() {
            while (next < bytes.length() && (bytes.charAt(next) == 32 || bytes.charAt(next) == 10)) {
                next++;
            }
            start = next;
            if (next == bytes.length()) {
                token = "";
                return;
            }
            Matcher m = TOKEN.matcher(bytes).region(next, bytes.length());
            token = m.lookingAt() ? m.group() : "?";
            next += token.length();
        }

        private Fault fault(int number) {
            return new Fault(number, start);
        }

        private void need(String word) throws Fault {
            if (!token.equals(word)) {
                throw fault(1);
            }
            advance();
        }

        private boolean isNumber() {
            return !token.isEmpty() && Character.isDigit(token.charAt(0)) && token.charAt(0) < 128;
        }

        private int number(int lo, int hi) throws Fault {
            if (!isNumber()) {
                throw fault(1);
            }
            BigInteger v = new BigInteger(token);
            if (v.compareTo(BigInteger.valueOf(lo)) < 0 || v.compareTo(BigInteger.valueOf(hi)) > 0) {
                throw fault(2);
            }
            return v.intValue();
        }

        private int takeNumber(int lo, int hi) throws Fault {
            int n = number(lo, hi);
            advance();
            return n;
        }

        Script script() throws Fault {
            Script s = new Script();
            while (!token.isEmpty()) {
                clause(s);
            }
            return s;
        }

        private void clause(Script s) throws Fault {
            String word = token;
            if (!CLAUSES.contains(word)) {
                throw fault(1);
            }
            if (LAWS.contains(word) && s.clauses.stream().anyMatch(c -> c[0].equals(word))) {
                throw fault(4);
            }
            if (s.clauses.size() == 24) {
                throw fault(6);
            }
            advance();
            ofTwo = word.equals("unlike");
            switch (word) {
                case "worn":
                    s.worn = sum();
                    s.clauses.add(new Object[] {word});
                    break;
                case "holy":
                    s.holy = either();
                    s.clauses.add(new Object[] {word});
                    break;
                case "unlike":
                    s.unlike = either();
                    s.clauses.add(new Object[] {word});
                    break;
                case "kind":
                    int kind = number(0, 19);
                    if (s.many[kind] != 0) {
                        throw fault(4);
                    }
                    advance();
                    need("many");
                    s.many[kind] = takeNumber(1, 9);
                    s.clauses.add(new Object[] {word});
                    break;
                case "lend":
                    int bone = takeNumber(0, 15);
                    need("to");
                    int town = takeNumber(0, 9);
                    need("for");
                    s.clauses.add(new Object[] {word, bone, town, takeNumber(1, 99)});
                    break;
                case "swap":
                    int one = takeNumber(0, 15);
                    need("with");
                    s.clauses.add(new Object[] {word, one, takeNumber(0, 15)});
                    break;
                case "steal":
                    int loot = takeNumber(0, 15);
                    need("to");
                    s.clauses.add(new Object[] {word, loot, takeNumber(0, 9)});
                    break;
                case "burn":
                    s.clauses.add(new Object[] {word, takeNumber(0, 9)});
                    break;
                default:
                    s.clauses.add(new Object[] {word, takeNumber(0, 99)});
                    break;
            }
            need(";");
        }

        private Ask either() throws Fault {
            Ask left = both();
            while (token.equals("or")) {
                advance();
                Ask a = left;
                Ask b = both();
                left = e -> a.apply(e) | b.apply(e);
            }
            return left;
        }

        private Ask both() throws Fault {
            Ask left = ask();
            while (token.equals("and")) {
                advance();
                Ask a = left;
                Ask b = ask();
                left = e -> a.apply(e) & b.apply(e);
            }
            return left;
        }

        private void enter() throws Fault {
            if (open == 8) {
                throw fault(3);
            }
            open++;
            advance();
        }

        private Ask ask() throws Fault {
            if (token.equals("not")) {
                enter();
                Ask a = ask();
                open--;
                return e -> !a.apply(e);
            }
            Sum a = sum();
            String sign = token;
            if (!SIGNS.contains(sign)) {
                throw fault(1);
            }
            advance();
            Sum b = sum();
            return e -> {
                int order = Long.compare(a.apply(e), b.apply(e));
                switch (sign) {
                    case "<": return order < 0;
                    case "<=": return order <= 0;
                    case ">": return order > 0;
                    case ">=": return order >= 0;
                    case "=": return order == 0;
                    default: return order != 0;
                }
            };
        }

        private static long bounded(long v) {
            return Math.max(-1000000, Math.min(1000000, v));
        }

        private Sum sum() throws Fault {
            Sum left = product();
            while (token.equals("+") || token.equals("-")) {
                boolean plus = token.equals("+");
                advance();
                Sum a = left;
                Sum b = product();
                left = e -> bounded(plus ? a.apply(e) + b.apply(e) : a.apply(e) - b.apply(e));
            }
            return left;
        }

        private Sum product() throws Fault {
            Sum left = one();
            while (token.equals("*") || token.equals("/")) {
                boolean times = token.equals("*");
                advance();
                Sum a = left;
                Sum b = one();
                left = e -> {
                    long x = a.apply(e);
                    long y = b.apply(e);
                    return bounded(times ? x * y : y == 0 ? 0 : x / y);
                };
            }
            return left;
        }

        private Sum one() throws Fault {
            if (isNumber()) {
                long v = takeNumber(0, 9999);
                return e -> v;
            }
            if (token.equals("(")) {
                enter();
                Sum a = sum();
                need(")");
                open--;
                return a;
            }
            if (token.equals("-")) {
                enter();
                Sum a = one();
                open--;
                return e -> -a.apply(e);
            }
            if (OTHER_NAMES.contains(token) && !ofTwo) {
                throw fault(5);
            }
            if (!OTHER_NAMES.contains(token) && !NAMES.contains(token)) {
                throw fault(1);
            }
            String name = token;
            advance();
            return e -> named(name, e);
        }

        private static long named(String name, Env e) {
            switch (name) {
                case "sort": return e.one.kind;
                case "weight": return e.one.weight;
                case "town": return e.one.at;
                case "proofs": return e.proofs;
                case "year": return e.year;
                case "osort": return e.other.kind;
                case "oweight": return e.other.weight;
                default: return e.other.at;
            }
        }
    }
}
