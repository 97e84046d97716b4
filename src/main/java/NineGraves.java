import java.util.Arrays;

/**
 * Nine graves of one saint. The words in capitals are those of the document;
 * every promise of it is one public method here.
 */
public final class NineGraves {
    public static final int NONE = -1;

    private static final int OTHERS = -2;
    private static final int MOST_TOWNS = 10;
    private static final int LAST_PLACE = 99;
    private static final int MOST_BONES = 16;
    private static final int KINDS = 20;
    private static final int MOST_WEIGHT = 999;
    private static final int LAST_YEAR = 999;
    private static final int MOST_YEARS = 99;
    private static final int MOST_STEPS = 20;
    private static final int MOST_TEXTS = 4;
    private static final int MOST_SHARED = 12;
    private static final int MOST_SEEN = 12;
    private static final int MOST_PILGRIMS = 20;
    private static final int MOST_ROUND = 8;
    private static final int FARTHEST = 2 * LAST_PLACE;

    private static final int TAPE = 300;
    private static final int MOST_CLAUSES = 24;
    private static final int MOST_MANY = 9;
    private static final int MOST_OPEN = 8;
    private static final int MOST_NUMBER = 9999;
    private static final int LIMIT = 1000000;

    private static final int CANT_STAND = 1;
    private static final int BAD_NUMBER = 2;
    private static final int TOO_DEEP = 3;
    private static final int TOLD_TWICE = 4;
    private static final int BAD_NAME = 5;
    private static final int TOO_MANY_CLAUSES = 6;

    // TOKENS. The groups that the reader asks for stand in one row each:
    // PLUS .. OVER, LESS .. MORE_EQUAL, WORN .. UNLIKE, WORN .. PASS, SORT .. OTOWN, OSORT .. OTOWN.
    private static final int END = 0;
    private static final int STRANGE = 1;
    private static final int NUMBER = 2;
    private static final int SEMICOLON = 3;
    private static final int OPEN = 4;
    private static final int CLOSE = 5;
    private static final int PLUS = 6;
    private static final int MINUS = 7;
    private static final int TIMES = 8;
    private static final int OVER = 9;
    private static final int LESS = 10;
    private static final int MORE = 11;
    private static final int EQUAL = 12;
    private static final int NOT_EQUAL = 13;
    private static final int LESS_EQUAL = 14;
    private static final int MORE_EQUAL = 15;
    private static final int WORN = 16;
    private static final int HOLY = 17;
    private static final int UNLIKE = 18;
    private static final int KIND = 19;
    private static final int LEND = 20;
    private static final int SWAP = 21;
    private static final int STEAL = 22;
    private static final int BURN = 23;
    private static final int PASS = 24;
    private static final int MANY = 25;
    private static final int TO = 26;
    private static final int FOR = 27;
    private static final int WITH = 28;
    private static final int NOT = 29;
    private static final int AND = 30;
    private static final int OR = 31;
    private static final int SORT = 32;
    private static final int WEIGHT = 33;
    private static final int TOWN = 34;
    private static final int PROOFS = 35;
    private static final int YEAR = 36;
    private static final int OSORT = 37;
    private static final int OWEIGHT = 38;
    private static final int OTOWN = 39;
    private static final int NEGATE = 40;

    /** The signs from SEMICOLON on, in the order of their TOKENS. */
    private static final String SIGNS = ";()+-*/<>=#";
    /** The words from WORN on, in the order of their TOKENS, a blank behind each. */
    private static final String WORDS = "worn holy unlike kind lend swap steal burn pass many to for with not and or sort weight town proofs year osort oweight otown ";

    private final World now = new World();
    private final World image = new World();
    private final Reader reader = new Reader();
    private final Law law = new Law(now);
    private final Sharing sharing = new Sharing(now, law);
    private final Histories past = new Histories(now);
    private final Rounds rounds = new Rounds(now);

    public NineGraves() {
    }

    public int town(int x, int y) {
        return now.tellTown(x, y);
    }

    public int bone(int kind, int weight, int owner) {
        return now.tellBone(kind, weight, owner);
    }

    public boolean prove(int town, int bone) {
        return now.tellProof(town, bone);
    }

    public int feed(int a, int b, int c, int d, int e) {
        if (reader.size + 20 > TAPE) {
            return NONE;
        }
        reader.put(a);
        reader.put(b);
        reader.put(c);
        reader.put(d);
        reader.put(e);
        return reader.size;
    }

    public int end(int n) {
        if (n < 0 || n > reader.size) {
            return NONE;
        }
        reader.size = n;
        return n;
    }

    public int text() {
        if (now.textCount >= MOST_TEXTS) {
            return NONE;
        }
        Text read = reader.read();
        return read == null ? NONE : now.addText(read);
    }

    public int fault(int what) {
        switch (what) {
            case 0:
                return reader.fault;
            case 1:
                return reader.place;
            default:
                return NONE;
        }
    }

    public boolean by(int text) {
        return now.ruleBy(text);
    }

    public int lend(int bone, int town, int years) {
        return now.lendTo(bone, town, years);
    }

    public boolean swap(int one, int other) {
        return now.swapPlaces(one, other);
    }

    public boolean steal(int bone, int town) {
        return now.stealTo(bone, town);
    }

    public int burn(int town) {
        return now.burnProofs(town);
    }

    public int pass(int years) {
        return now.passYears(years, law);
    }

    public int played(int text) {
        if (text < 0 || text >= now.textCount) {
            return OTHERS;
        }
        Text script = now.texts[text];
        if (script == null) {
            return OTHERS;
        }
        for (int i = 0; i < script.count; i++) {
            if (!now.perform(script, i, law)) {
                return i;
            }
        }
        return NONE;
    }

    public int undo() {
        return now.takeBack();
    }

    public int of(int bone, int what) {
        if (!now.hasBone(bone)) {
            return OTHERS;
        }
        switch (what) {
            case 0:
                return now.kind[bone];
            case 1:
                return now.bones.weight[bone];
            case 2:
                return now.bones.owner[bone];
            case 3:
                return now.bones.at[bone];
            case 4:
                return now.bones.due[bone];
            case 5:
                return now.proofsOf(bone);
            case 6:
                return law.isHoly(bone) ? 1 : 0;
            default:
                return OTHERS;
        }
    }

    public int saints(int set, int bone) {
        if (!now.hasTowns(set) || (bone != NONE && !now.hasBone(bone)) || !sharing.share(set)) {
            return OTHERS;
        }
        return bone == NONE ? sharing.saints : sharing.saintOf(bone);
    }

    public boolean rules(int loss, int pace) {
        return now.ruleSeen(loss, pace);
    }

    public int seen(int town, int kind, int weight, int year) {
        return now.tellSeen(town, kind, weight, year);
    }

    public int forget() {
        return now.forgetSeen();
    }

    public boolean same(int ahead, int one) {
        return now.canBeSame(ahead, one);
    }

    public int best(int what) {
        switch (what) {
            case 0:
                return past.bones();
            case 1:
                return past.thefts();
            default:
                return NONE;
        }
    }

    public long histories() {
        return past.count();
    }

    public int led(int one) {
        if (one < 0 || one >= now.seen.count) {
            return OTHERS;
        }
        return past.aheadOf(one);
    }

    public long chance(int n, int h, int c, int what) {
        if (!within(n, 0, MOST_PILGRIMS) || !within(h, 0, n) || !within(c, 0, 6) || !within(what, 0, 1)) {
            return NONE;
        }
        long upper = 0;
        long choices = 1;
        for (int k = 0; k <= n; k++) {
            if (k >= h) {
                upper += choices * power(c, k) * power(6 - c, n - k);
            }
            choices = choices * (n - k) / (k + 1);
        }
        long common = commonWithSixes(upper, n);
        return what == 0 ? upper / common : power(6, n) / common;
    }

    public int round(int set, int i) {
        if (!now.hasTowns(set) || i < NONE || !rounds.plan(set)) {
            return NONE;
        }
        return i == NONE ? rounds.miles : rounds.townAt(i);
    }

    public int pilgrims(int seed, int n, int c, int town) {
        if (!within(seed, 0, 9999) || !within(n, 1, 99) || !within(c, 0, 6) || !now.hasTown(town)) {
            return NONE;
        }
        int holy = law.holyTowns();
        int x = seed * 7 + 15;
        int healed = 0;
        for (int i = 0; i < n; i++) {
            int comesTo = x % now.towns;
            x = nextDraw(x);
            if ((holy >> comesTo & 1) != 0) {
                if (comesTo == town && x % 6 < c) {
                    healed++;
                }
                x = nextDraw(x);
            }
        }
        return healed;
    }

    public int image() {
        image.become(now);
        return now.bones.year;
    }

    public int back() {
        now.become(image);
        return now.bones.year;
    }

    public int about(int what) {
        if (what >= 10) {
            return now.aboutTown(what);
        }
        switch (what) {
            case 0:
                return now.towns;
            case 1:
                return now.bones.told;
            case 2:
                return now.bones.year;
            case 3:
                return now.textCount;
            case 4:
                return now.ruling;
            case 5:
                return now.steps.size;
            case 6:
                return now.seen.count;
            case 7:
                return now.seen.loss;
            case 8:
                return now.seen.pace;
            case 9:
                return reader.size;
            default:
                return OTHERS;
        }
    }

    private static boolean within(int value, int least, int most) {
        return value >= least && value <= most;
    }

    private static int nextDraw(int x) {
        return (x * 173 + 41) % 30103;
    }

    private static long power(int base, int exponent) {
        long value = 1;
        for (int i = 0; i < exponent; i++) {
            value *= base;
        }
        return value;
    }

    /** The greatest divisor of upper and of 6 to the n-th: only twos and threes can be in it. */
    private static long commonWithSixes(long upper, int n) {
        long common = 1;
        long rest = upper;
        for (int i = 0; i < n && rest % 2 == 0; i++) {
            rest /= 2;
            common *= 2;
        }
        for (int i = 0; i < n && rest % 3 == 0; i++) {
            rest /= 3;
            common *= 3;
        }
        return common;
    }

    /** What STEPS change; the rows of STEPS hold it as it was ahead of each. */
    private static final class Bones {
        final int[] weight = new int[MOST_BONES];
        final int[] owner = new int[MOST_BONES];
        final int[] at = new int[MOST_BONES];
        final int[] due = new int[MOST_BONES];
        /** Of each TOWN a bit for each BONE. */
        final int[] proofs = new int[MOST_TOWNS];
        int told;
        int year;

        void become(Bones other) {
            System.arraycopy(other.weight, 0, weight, 0, other.told);
            System.arraycopy(other.owner, 0, owner, 0, other.told);
            System.arraycopy(other.at, 0, at, 0, other.told);
            System.arraycopy(other.due, 0, due, 0, other.told);
            System.arraycopy(other.proofs, 0, proofs, 0, MOST_TOWNS);
            told = other.told;
            year = other.year;
        }
    }

    /** The latest STEPS, in a ring of rows that are used again. */
    private static final class Steps {
        private final Bones[] rows = new Bones[MOST_STEPS];
        private int next;
        int size;

        Steps() {
            for (int i = 0; i < MOST_STEPS; i++) {
                rows[i] = new Bones();
            }
        }

        void remember(Bones bones) {
            Bones row = rows[next];
            if (row != null) {
                row.become(bones);
            }
            next = (next + 1) % MOST_STEPS;
            size = Math.min(size + 1, MOST_STEPS);
        }

        void takeBack(Bones bones) {
            next = (next + MOST_STEPS - 1) % MOST_STEPS;
            size = Math.max(size - 1, 0);
            int told = bones.told;
            Bones row = rows[next];
            if (row != null) {
                bones.become(row);
            }
            // BONES told since the STEP are not in its row: all later STEPS are taken back, so they are as told.
            bones.told = told;
        }

        void become(Steps other) {
            for (int i = 0; i < MOST_STEPS; i++) {
                Bones row = rows[i];
                Bones from = other.rows[i];
                if (row != null && from != null) {
                    row.become(from);
                }
            }
            next = other.next;
            size = other.size;
        }
    }

    /** What was SEEN, and the rules by which it can be THE SAME BONE. */
    private static final class Seen {
        final int[] town = new int[MOST_SEEN];
        final int[] kind = new int[MOST_SEEN];
        final int[] weight = new int[MOST_SEEN];
        final int[] year = new int[MOST_SEEN];
        int count;
        int loss = 1;
        int pace = 10;

        void become(Seen other) {
            System.arraycopy(other.town, 0, town, 0, MOST_SEEN);
            System.arraycopy(other.kind, 0, kind, 0, MOST_SEEN);
            System.arraycopy(other.weight, 0, weight, 0, MOST_SEEN);
            System.arraycopy(other.year, 0, year, 0, MOST_SEEN);
            count = other.count;
            loss = other.loss;
            pace = other.pace;
        }
    }

    /** All that an IMAGE holds. */
    private static final class World {
        final int[] townX = new int[MOST_TOWNS];
        final int[] townY = new int[MOST_TOWNS];
        final int[] kind = new int[MOST_BONES];
        final Bones bones = new Bones();
        final Steps steps = new Steps();
        /** A TEXT never changes, so an IMAGE holds the same ones. */
        final Text[] texts = new Text[MOST_TEXTS];
        final Seen seen = new Seen();
        int towns;
        int textCount;
        int ruling = NONE;
        /** Goes up with each change, so that what was worked out from this world can tell whether it holds yet. */
        int changes;

        void become(World other) {
            System.arraycopy(other.townX, 0, townX, 0, MOST_TOWNS);
            System.arraycopy(other.townY, 0, townY, 0, MOST_TOWNS);
            System.arraycopy(other.kind, 0, kind, 0, MOST_BONES);
            bones.become(other.bones);
            steps.become(other.steps);
            for (int i = 0; i < MOST_TEXTS; i++) {
                texts[i] = other.texts[i];
            }
            seen.become(other.seen);
            towns = other.towns;
            textCount = other.textCount;
            ruling = other.ruling;
            changes++;
        }

        boolean hasTown(int town) {
            return town >= 0 && town < towns;
        }

        boolean hasTowns(int set) {
            return set >= 0 && set < 1 << towns;
        }

        boolean hasBone(int bone) {
            return bone >= 0 && bone < bones.told;
        }

        int milesBetween(int one, int other) {
            return Math.abs(townX[one] - townX[other]) + Math.abs(townY[one] - townY[other]);
        }

        int proofsOf(int bone) {
            int count = 0;
            for (int i = 0; i < towns; i++) {
                count += bones.proofs[i] >> bone & 1;
            }
            return count;
        }

        int aboutTown(int what) {
            if (hasTown(what - 10)) {
                return Integer.bitCount(bones.proofs[what - 10]);
            }
            if (what < 20 || !hasTown(what - 20)) {
                return OTHERS;
            }
            int count = 0;
            for (int i = 0; i < bones.told; i++) {
                if (bones.at[i] == what - 20) {
                    count++;
                }
            }
            return count;
        }

        /** THE TEXT, or null. */
        Text ruler() {
            return ruling < 0 || ruling >= textCount ? null : texts[ruling];
        }

        int tellTown(int x, int y) {
            if (towns >= MOST_TOWNS || !within(x, 0, LAST_PLACE) || !within(y, 0, LAST_PLACE)) {
                return NONE;
            }
            townX[towns] = x;
            townY[towns] = y;
            changes++;
            return towns++;
        }

        int tellBone(int sort, int weight, int owner) {
            int bone = bones.told;
            if (bone >= MOST_BONES || !within(sort, 0, KINDS - 1) || !within(weight, 1, MOST_WEIGHT)
                    || !hasTown(owner)) {
                return NONE;
            }
            kind[bone] = sort;
            bones.weight[bone] = weight;
            bones.owner[bone] = owner;
            bones.at[bone] = owner;
            bones.due[bone] = NONE;
            bones.told++;
            changes++;
            return bone;
        }

        boolean tellProof(int town, int bone) {
            if (!hasTown(town) || !hasBone(bone) || (bones.proofs[town] >> bone & 1) != 0) {
                return false;
            }
            remember();
            bones.proofs[town] |= 1 << bone;
            return true;
        }

        int addText(Text text) {
            if (textCount >= MOST_TEXTS) {
                return NONE;
            }
            texts[textCount] = text;
            changes++;
            return textCount++;
        }

        boolean ruleBy(int text) {
            if (text < NONE || text >= textCount) {
                return false;
            }
            ruling = text;
            changes++;
            return true;
        }

        int lendTo(int bone, int town, int years) {
            if (!hasBone(bone) || !hasTown(town) || !within(years, 1, MOST_YEARS)) {
                return NONE;
            }
            int due = bones.year + years;
            boolean home = bones.at[bone] == bones.owner[bone] && bones.due[bone] == NONE;
            if (!home || bones.at[bone] == town || due > LAST_YEAR) {
                return NONE;
            }
            remember();
            bones.at[bone] = town;
            bones.due[bone] = due;
            return due;
        }

        boolean swapPlaces(int one, int other) {
            if (!hasBone(one) || !hasBone(other) || bones.at[one] == bones.at[other]) {
                return false;
            }
            remember();
            int place = bones.at[one];
            bones.at[one] = bones.at[other];
            bones.at[other] = place;
            return true;
        }

        boolean stealTo(int bone, int town) {
            if (!hasBone(bone) || !hasTown(town) || bones.at[bone] == town) {
                return false;
            }
            remember();
            bones.at[bone] = town;
            bones.owner[bone] = town;
            bones.due[bone] = NONE;
            return true;
        }

        int burnProofs(int town) {
            if (!hasTown(town)) {
                return NONE;
            }
            remember();
            int burnt = Integer.bitCount(bones.proofs[town]);
            bones.proofs[town] = 0;
            return burnt;
        }

        int passYears(int years, Law law) {
            if (!within(years, 0, MOST_YEARS) || bones.year + years > LAST_YEAR) {
                return NONE;
            }
            remember();
            for (int i = 0; i < years; i++) {
                bones.year++;
                for (int bone = 0; bone < bones.told; bone++) {
                    age(bone, law);
                }
            }
            return bones.year;
        }

        private void age(int bone, Law law) {
            int worn = Math.max(0, law.value(WORN, bone, bone, 0));
            bones.weight[bone] = Math.max(1, bones.weight[bone] - worn);
            if (bones.due[bone] == bones.year) {
                bones.at[bone] = bones.owner[bone];
                bones.due[bone] = NONE;
            }
        }

        /** Does a CLAUSE of a script; false if it can't be. */
        boolean perform(Text script, int clause, Law law) {
            int i = clause * 4;
            if (i < 0 || i + 3 >= script.clauses.length) {
                return true;
            }
            int a = script.clauses[i + 1];
            int b = script.clauses[i + 2];
            switch (script.clauses[i]) {
                case LEND:
                    return lendTo(a, b, script.clauses[i + 3]) != NONE;
                case SWAP:
                    return swapPlaces(a, b);
                case STEAL:
                    return stealTo(a, b);
                case BURN:
                    return burnProofs(a) != NONE;
                case PASS:
                    return passYears(a, law) != NONE;
                default:
                    return true;
            }
        }

        private void remember() {
            steps.remember(bones);
            changes++;
        }

        int takeBack() {
            if (steps.size == 0) {
                return NONE;
            }
            steps.takeBack(bones);
            changes++;
            return steps.size;
        }

        boolean ruleSeen(int loss, int pace) {
            if (!within(loss, 0, 9) || !within(pace, 1, 99)) {
                return false;
            }
            seen.loss = loss;
            seen.pace = pace;
            changes++;
            return true;
        }

        int tellSeen(int town, int sort, int weight, int year) {
            int one = seen.count;
            if (one >= MOST_SEEN || !hasTown(town) || !within(sort, 0, KINDS - 1)
                    || !within(weight, 1, MOST_WEIGHT) || !within(year, 0, LAST_YEAR)) {
                return NONE;
            }
            seen.town[one] = town;
            seen.kind[one] = sort;
            seen.weight[one] = weight;
            seen.year[one] = year;
            seen.count++;
            changes++;
            return one;
        }

        int forgetSeen() {
            int count = seen.count;
            seen.count = 0;
            changes++;
            return count;
        }

        boolean canBeSame(int ahead, int one) {
            if (!within(ahead, 0, seen.count - 1) || !within(one, 0, seen.count - 1)
                    || seen.kind[ahead] != seen.kind[one]) {
                return false;
            }
            int years = seen.year[one] - seen.year[ahead];
            int lost = seen.weight[ahead] - seen.weight[one];
            if (years <= 0 || lost < 0 || lost > seen.loss * years) {
                return false;
            }
            // MILES by PACE, cut, are no more than the years: without a divisor.
            return milesBetween(seen.town[ahead], seen.town[one]) < (years + 1) * seen.pace;
        }
    }

    /** A TEXT without FAULT. */
    private static final class Text {
        /** Of each CLAUSE its first word and up to three NUMBERS. */
        final int[] clauses;
        final int count;
        /** The sums of worn, holy and unlike behind one another, each operation behind what it is done to. */
        final int[] code;
        final int[] from;
        final int[] to;
        /** Of each KIND how many a SAINT may have; 0: it is not told. */
        final int[] many;

        Text(Reader reader) {
            count = reader.clauseCount;
            clauses = Arrays.copyOf(reader.clauses, count * 4);
            code = Arrays.copyOf(reader.code, reader.codeSize);
            from = reader.from.clone();
            to = reader.to.clone();
            many = reader.many.clone();
        }
    }

    /** The tape, how it is read, and the latest FAULT. */
    private static final class Reader {
        private final int[] tape = new int[TAPE];
        int size;
        int fault = NONE;
        int place = NONE;
        private final int[] tokens = new int[TAPE + 1];
        private final int[] starts = new int[TAPE + 1];
        private final int[] values = new int[TAPE + 1];
        private int tokenCount;
        private int at;
        private boolean inUnlike;
        final int[] clauses = new int[MOST_CLAUSES * 4];
        int clauseCount;
        final int[] code = new int[TAPE];
        int codeSize;
        final int[] from = new int[3];
        final int[] to = new int[3];
        final int[] many = new int[KINDS];

        void put(int four) {
            for (int shift = 24; shift >= 0 && size < TAPE; shift -= 8) {
                tape[size] = four >> shift & 255;
                size++;
            }
        }

        /** The TEXT of the tape, which is empty then; null if it has a FAULT. */
        Text read() {
            split();
            size = 0;
            fault = 0;
            place = NONE;
            at = 0;
            clauseCount = 0;
            codeSize = 0;
            Arrays.fill(from, NONE);
            Arrays.fill(many, 0);
            for (int i = 0; i <= MOST_CLAUSES && fault == 0 && tokens[at] != END; i++) {
                readClause();
            }
            return fault == 0 ? new Text(this) : null;
        }

        private void split() {
            tokenCount = 0;
            int i = 0;
            // Each turn takes a byte at least.
            for (int turn = 0; turn < TAPE && i < size; turn++) {
                int c = tape[i];
                if (c == ' ' || c == '\n') {
                    i++;
                } else if (isLetter(c)) {
                    i = splitWord(i);
                } else if (isDigit(c)) {
                    i = splitNumber(i);
                } else {
                    i = splitSign(i);
                }
            }
            addToken(END, size, 0);
        }

        private static boolean isLetter(int c) {
            return (c >= 'a' && c <= 'z') || (c >= 'A' && c <= 'Z');
        }

        private static boolean isDigit(int c) {
            return c >= '0' && c <= '9';
        }

        private void addToken(int token, int start, int value) {
            if (tokenCount < tokens.length) {
                tokens[tokenCount] = token;
                starts[tokenCount] = start;
                values[tokenCount] = value;
                tokenCount++;
            }
        }

        /** Adds the TOKEN that begins at start; answers the byte behind it, as the next two do. */
        private int splitWord(int start) {
            int i = start + 1;
            while (i < size && isLetter(tape[i])) {
                i++;
            }
            addToken(wordOf(start, i), start, 0);
            return i;
        }

        private int splitNumber(int start) {
            int i = start;
            int value = 0;
            while (i < size && isDigit(tape[i])) {
                // One above the greatest stands for all that are too great.
                value = Math.min(value * 10 + tape[i] - '0', MOST_NUMBER + 1);
                i++;
            }
            addToken(NUMBER, start, value);
            return i;
        }

        private int splitSign(int start) {
            int sign = SIGNS.indexOf((char) tape[start]);
            int token = sign < 0 ? STRANGE : SEMICOLON + sign;
            int i = start + 1;
            if ((token == LESS || token == MORE) && i < size && tape[i] == '=') {
                token += LESS_EQUAL - LESS;
                i++;
            }
            addToken(token, start, 0);
            return i;
        }

        private int wordOf(int start, int behind) {
            int word = WORN;
            int i = start;
            boolean like = true;
            for (int k = 0; k < WORDS.length(); k++) {
                char c = WORDS.charAt(k);
                if (c == ' ') {
                    if (like && i == behind) {
                        return word;
                    }
                    word++;
                    i = start;
                    like = true;
                } else if (like) {
                    like = i < behind && tape[i] == c;
                    i++;
                }
            }
            return STRANGE;
        }

        /** Goes on to the next TOKEN if this one is good; else it is the FAULT. */
        private boolean take(boolean good, int otherwise) {
            if (fault != 0) {
                return false;
            }
            if (!good) {
                fault = otherwise;
                place = starts[at];
                return false;
            }
            if (at + 1 < tokenCount) {
                at++;
            }
            return true;
        }

        private void emit(int operation) {
            if (codeSize < code.length) {
                code[codeSize] = operation;
                codeSize++;
            }
        }

        private void readClause() {
            int word = tokens[at];
            if (word < WORN || word > PASS) {
                take(false, CANT_STAND);
            } else if (word <= UNLIKE && from[word - WORN] != NONE) {
                take(false, TOLD_TWICE);
            } else if (take(clauseCount < MOST_CLAUSES, TOO_MANY_CLAUSES)) {
                clauses[clauseCount * 4] = word;
                int start = codeSize;
                inUnlike = word == UNLIKE;
                if (word == WORN) {
                    readSum(0);
                } else if (word <= UNLIKE) {
                    readEither();
                } else {
                    readNumbers(word, clauseCount * 4);
                }
                if (word <= UNLIKE) {
                    from[word - WORN] = start;
                    to[word - WORN] = codeSize;
                }
                clauseCount++;
                take(tokens[at] == SEMICOLON, CANT_STAND);
            }
        }

        private void readNumbers(int word, int i) {
            switch (word) {
                case KIND:
                    readMany();
                    break;
                case LEND:
                    clauses[i + 1] = readNumber(0, MOST_BONES - 1);
                    take(tokens[at] == TO, CANT_STAND);
                    clauses[i + 2] = readNumber(0, MOST_TOWNS - 1);
                    take(tokens[at] == FOR, CANT_STAND);
                    clauses[i + 3] = readNumber(1, MOST_YEARS);
                    break;
                case SWAP:
                    clauses[i + 1] = readNumber(0, MOST_BONES - 1);
                    take(tokens[at] == WITH, CANT_STAND);
                    clauses[i + 2] = readNumber(0, MOST_BONES - 1);
                    break;
                case STEAL:
                    clauses[i + 1] = readNumber(0, MOST_BONES - 1);
                    take(tokens[at] == TO, CANT_STAND);
                    clauses[i + 2] = readNumber(0, MOST_TOWNS - 1);
                    break;
                case BURN:
                    clauses[i + 1] = readNumber(0, MOST_TOWNS - 1);
                    break;
                default:
                    clauses[i + 1] = readNumber(0, MOST_YEARS);
                    break;
            }
        }

        private void readMany() {
            boolean kind = tokens[at] == NUMBER && values[at] < KINDS;
            if (kind && many[values[at]] != 0) {
                take(false, TOLD_TWICE);
            }
            int sort = readNumber(0, KINDS - 1);
            take(tokens[at] == MANY, CANT_STAND);
            many[sort] = readNumber(1, MOST_MANY);
        }

        /** A NUMBER from least to most; least if there is a FAULT. */
        private int readNumber(int least, int most) {
            int value = values[at];
            if (tokens[at] != NUMBER) {
                take(false, CANT_STAND);
                return least;
            }
            return take(within(value, least, most), BAD_NUMBER) ? value : least;
        }

        private void readEither() {
            boolean waiting = false;
            readAsk(0);
            for (int i = 0; i < TAPE && fault == 0 && (tokens[at] == AND || tokens[at] == OR); i++) {
                boolean or = tokens[at] == OR;
                take(true, CANT_STAND);
                // An or waits for the ands behind it; the next or ends them.
                if (or && waiting) {
                    emit(-OR);
                }
                waiting = waiting || or;
                readAsk(0);
                if (!or) {
                    emit(-AND);
                }
            }
            if (waiting) {
                emit(-OR);
            }
        }

        private void readAsk(int open) {
            if (tokens[at] == NOT) {
                if (take(open < MOST_OPEN, TOO_DEEP)) {
                    readAsk(open + 1);
                    emit(-NOT);
                }
                return;
            }
            readSum(open);
            int sign = tokens[at];
            if (take(sign >= LESS && sign <= MORE_EQUAL, CANT_STAND)) {
                readSum(open);
                emit(-sign);
            }
        }

        private void readSum(int open) {
            int waiting = 0;
            readOne(open);
            for (int i = 0; i < TAPE && fault == 0 && tokens[at] >= PLUS && tokens[at] <= OVER; i++) {
                int sign = tokens[at];
                take(true, CANT_STAND);
                boolean product = sign == TIMES || sign == OVER;
                // A sum waits for the product behind it; the next + or - ends that.
                if (!product) {
                    if (waiting != 0) {
                        emit(-waiting);
                    }
                    waiting = sign;
                }
                readOne(open);
                if (product) {
                    emit(-sign);
                }
            }
            if (waiting != 0) {
                emit(-waiting);
            }
        }

        private void readOne(int open) {
            int token = tokens[at];
            int value = values[at];
            if (token == NUMBER) {
                take(value <= MOST_NUMBER, BAD_NUMBER);
                emit(value);
            } else if (token >= SORT) {
                take(token < OSORT || inUnlike, BAD_NAME);
                emit(-token);
            } else if (token == OPEN) {
                if (take(open < MOST_OPEN, TOO_DEEP)) {
                    readSum(open + 1);
                    take(tokens[at] == CLOSE, CANT_STAND);
                }
            } else if (token == MINUS) {
                if (take(open < MOST_OPEN, TOO_DEEP)) {
                    readOne(open + 1);
                    emit(-NEGATE);
                }
            } else {
                take(false, CANT_STAND);
            }
        }
    }

    /** What THE TEXT says of BONES. */
    private static final class Law {
        private final World world;
        private final int[] stack = new int[TAPE + 1];
        private int one;
        private int other;

        Law(World world) {
            this.world = world;
        }

        boolean isHoly(int bone) {
            return value(HOLY, bone, bone, 1) != 0;
        }

        int manyOf(int kind) {
            Text text = world.ruler();
            return text == null || text.many[kind] == 0 ? 1 : text.many[kind];
        }

        /** The TOWNS that a HOLY BONE is AT. */
        int holyTowns() {
            int set = 0;
            for (int i = 0; i < world.bones.told; i++) {
                if (isHoly(i)) {
                    set |= 1 << world.bones.at[i];
                }
            }
            return set;
        }

        /** What worn, holy or unlike is for a BONE and another one. */
        int value(int clause, int bone, int otherBone, int without) {
            Text text = world.ruler();
            if (text == null || text.from[clause - WORN] == NONE) {
                return without;
            }
            one = bone;
            other = otherBone;
            return reckon(text.code, text.from[clause - WORN], text.to[clause - WORN]);
        }

        private int reckon(int[] code, int from, int to) {
            int top = 0;
            for (int i = from; i < to && i < code.length; i++) {
                int operation = -code[i];
                if (operation <= 0 || (operation >= SORT && operation <= OTOWN)) {
                    if (top < stack.length) {
                        stack[top] = operation <= 0 ? -operation : nameOf(operation);
                        top++;
                    }
                } else if (operation == NEGATE || operation == NOT) {
                    if (top > 0) {
                        stack[top - 1] = operation == NOT ? 1 - stack[top - 1] : -stack[top - 1];
                    }
                } else if (top > 1) {
                    top--;
                    stack[top - 1] = join(operation, stack[top - 1], stack[top]);
                }
            }
            return stack[0];
        }

        private int nameOf(int name) {
            switch (name) {
                case SORT:
                    return world.kind[one];
                case WEIGHT:
                    return world.bones.weight[one];
                case TOWN:
                    return world.bones.at[one];
                case PROOFS:
                    return world.proofsOf(one);
                case YEAR:
                    return world.bones.year;
                case OSORT:
                    return world.kind[other];
                case OWEIGHT:
                    return world.bones.weight[other];
                default:
                    return world.bones.at[other];
            }
        }

        private static int join(int operation, int a, int b) {
            switch (operation) {
                case PLUS:
                    return limited((long) a + b);
                case MINUS:
                    return limited((long) a - b);
                case TIMES:
                    return limited((long) a * b);
                case OVER:
                    return b == 0 ? 0 : a / b;
                case LESS:
                    return a < b ? 1 : 0;
                case LESS_EQUAL:
                    return a <= b ? 1 : 0;
                case MORE:
                    return a > b ? 1 : 0;
                case MORE_EQUAL:
                    return a >= b ? 1 : 0;
                case EQUAL:
                    return a == b ? 1 : 0;
                case NOT_EQUAL:
                    return a != b ? 1 : 0;
                case AND:
                    return a & b;
                default:
                    return a | b;
            }
        }

        private static int limited(long value) {
            if (value > LIMIT) {
                return LIMIT;
            }
            return value < -LIMIT ? -LIMIT : (int) value;
        }
    }

    /** The SAINTS of a set of TOWNS; kept while nothing changes, for each BONE is asked about apart. */
    private static final class Sharing {
        private final World world;
        private final Law law;
        private final int[] bones = new int[MOST_SHARED];
        /** Bits of the BONES that can't be with one, that are of its KIND, and of those a SAINT has. */
        private final int[] clash = new int[MOST_SHARED];
        private final int[] alike = new int[MOST_SHARED];
        private final int[] has = new int[MOST_SHARED];
        private final int[] room = new int[MOST_SHARED];
        /** The last BONE ahead of one that could change places with it in any sharing; NONE if there is none. */
        private final int[] twin = new int[MOST_SHARED];
        private final int[] given = new int[MOST_SHARED];
        private int count;
        private int set = NONE;
        private int changes;
        private boolean few;
        int saints;

        Sharing(World world, Law law) {
            this.world = world;
            this.law = law;
        }

        /** Shares the BONES of a set of TOWNS out; false if they are too many. */
        boolean share(int towns) {
            if (towns != set || changes != world.changes) {
                set = towns;
                changes = world.changes;
                few = gather();
                if (few) {
                    compare();
                    findTwins();
                    settle();
                }
            }
            return few;
        }

        int saintOf(int bone) {
            for (int i = 0; i < count; i++) {
                if (bones[i] == bone) {
                    return given[i];
                }
            }
            return NONE;
        }

        private boolean gather() {
            count = 0;
            for (int bone = 0; bone < world.bones.told; bone++) {
                if ((set >> world.bones.at[bone] & 1) != 0 && law.isHoly(bone)) {
                    if (count >= MOST_SHARED) {
                        return false;
                    }
                    bones[count] = bone;
                    count++;
                }
            }
            return true;
        }

        private void compare() {
            Arrays.fill(clash, 0);
            Arrays.fill(alike, 0);
            Arrays.fill(has, 0);
            for (int i = 0; i < count; i++) {
                room[i] = law.manyOf(world.kind[bones[i]]);
                alike[i] |= 1 << i;
                for (int j = 0; j < i; j++) {
                    boolean sameKind = world.kind[bones[i]] == world.kind[bones[j]];
                    if (sameKind) {
                        alike[i] |= 1 << j;
                        alike[j] |= 1 << i;
                    }
                    if ((sameKind && room[i] == 1) || areUnlike(bones[i], bones[j])) {
                        clash[i] |= 1 << j;
                        clash[j] |= 1 << i;
                    }
                }
            }
        }

        private void findTwins() {
            for (int i = 0; i < count; i++) {
                twin[i] = NONE;
                for (int j = 0; j < i; j++) {
                    int both = 1 << i | 1 << j;
                    if (alike[i] == alike[j] && (clash[i] | both) == (clash[j] | both)) {
                        twin[i] = j;
                    }
                }
            }
        }

        private boolean areUnlike(int one, int other) {
            return law.value(UNLIKE, one, other, 0) != 0 || law.value(UNLIKE, other, one, 0) != 0;
        }

        private void settle() {
            saints = count;
            for (int most = fewest(); most <= count; most++) {
                if (place(0, 0, most)) {
                    saints = most;
                    return;
                }
            }
        }

        /** As many as it takes at least: for the BONES of a KIND, and for BONES that all clash. */
        private int fewest() {
            int least = 0;
            for (int i = 0; i < count; i++) {
                int of = Integer.bitCount(alike[i]);
                if (room[i] > 0) {
                    least = Math.max(least, (of + room[i] - 1) / room[i]);
                }
                int common = clash[i];
                int size = 1;
                for (int j = 0; j < count; j++) {
                    if ((common >> j & 1) != 0) {
                        common &= clash[j];
                        size++;
                    }
                }
                least = Math.max(least, size);
            }
            return least;
        }

        /** Gives the BONES from i on to the least SAINTS that can have them, most at all; i goes up to 12. */
        private boolean place(int i, int used, int most) {
            if (i >= count) {
                return true;
            }
            // The first sharing never gives a twin a lesser SAINT: the two could change places.
            int least = twin[i] < 0 ? 0 : given[twin[i]];
            for (int saint = least; saint <= used && saint < most; saint++) {
                boolean fits = (has[saint] & clash[i]) == 0 && Integer.bitCount(has[saint] & alike[i]) < room[i];
                if (fits) {
                    has[saint] |= 1 << i;
                    given[i] = saint;
                    if (place(i + 1, Math.max(used, saint + 1), most)) {
                        return true;
                    }
                    has[saint] &= ~(1 << i);
                }
            }
            return false;
        }
    }

    /** The BEST HISTORIES of what was SEEN; kept while nothing changes. */
    private static final class Histories {
        // A cost is one number: BONES, THEFTS, and the one AHEAD of each SEEN (0: none), SEEN 0 highest,
        // so that the least cost is the first of the BEST HISTORIES.
        private static final int DIGIT = 4;
        private static final int THEFT_AT = DIGIT * MOST_SEEN;
        private static final int BONE_AT = THEFT_AT + DIGIT;

        private final World world;
        /** What was SEEN by YEAR, so that only earlier places in it can be AHEAD. */
        private final int[] order = new int[MOST_SEEN];
        private final int[] bit = new int[MOST_SEEN];
        private final long[] price = new long[MOST_SEEN];
        private int links;
        /** The least cost from a place on, by the set of those that are AHEAD already, and in how many ways. */
        private final long[] cost = new long[1 << MOST_SEEN - 1];
        private final long[] ways = new long[1 << MOST_SEEN - 1];
        private int changes = NONE;

        Histories(World world) {
            this.world = world;
        }

        int bones() {
            solve();
            return (int) (cost[0] >> BONE_AT);
        }

        int thefts() {
            solve();
            return (int) (cost[0] >> THEFT_AT & 15);
        }

        long count() {
            solve();
            return ways[0];
        }

        int aheadOf(int one) {
            solve();
            return (int) (cost[0] >> digitOf(one) & 15) - 1;
        }

        private static int digitOf(int one) {
            return DIGIT * (MOST_SEEN - 1 - one);
        }

        private void solve() {
            if (changes == world.changes) {
                return;
            }
            changes = world.changes;
            sortByYear();
            int sets = 1 << Math.max(world.seen.count - 1, 0);
            for (int ahead = 0; ahead < sets; ahead++) {
                cost[ahead] = 0;
                ways[ahead] = 1;
            }
            for (int place = world.seen.count - 1; place >= 0; place--) {
                link(place);
                // Upwards, because a set is worked out from itself and from greater ones.
                for (int ahead = 0; ahead < 1 << place; ahead++) {
                    choose(ahead);
                }
            }
        }

        private void sortByYear() {
            int[] year = world.seen.year;
            for (int i = 0; i < world.seen.count; i++) {
                int at = i;
                while (at > 0 && year[order[at - 1]] > year[i]) {
                    order[at] = order[at - 1];
                    at--;
                }
                order[at] = i;
            }
        }

        private void link(int place) {
            int one = order[place];
            links = 0;
            for (int i = 0; i < place; i++) {
                int ahead = order[i];
                if (world.canBeSame(ahead, one)) {
                    long theft = world.seen.town[ahead] == world.seen.town[one] ? 0L : 1L;
                    bit[links] = 1 << i;
                    price[links] = (theft << THEFT_AT) + ((ahead + 1L) << digitOf(one));
                    links++;
                }
            }
        }

        private void choose(int ahead) {
            long best = cost[ahead] + (1L << BONE_AT);
            long count = ways[ahead];
            for (int i = 0; i < links; i++) {
                if ((ahead & bit[i]) == 0) {
                    long found = cost[ahead | bit[i]] + price[i];
                    if (found >> THEFT_AT == best >> THEFT_AT) {
                        count += ways[ahead | bit[i]];
                    } else if (found < best) {
                        count = ways[ahead | bit[i]];
                    }
                    best = Math.min(best, found);
                }
            }
            cost[ahead] = best;
            ways[ahead] = count;
        }
    }

    /** The ROUND of a set of TOWNS; kept while nothing changes, for each of its TOWNS is asked about apart. */
    private static final class Rounds {
        private final World world;
        private final int[] towns = new int[MOST_ROUND];
        private final int[] way = new int[MOST_ROUND];
        private final int[] between = new int[MOST_ROUND * MOST_ROUND];
        /** The fewest MILES home from a TOWN through a set of the others (the first has no bit in it). */
        private final int[] home = new int[MOST_ROUND << MOST_ROUND - 1];
        private int count;
        private int set = NONE;
        private int changes;
        int miles;

        Rounds(World world) {
            this.world = world;
        }

        /** Plans the ROUND of a set of TOWNS; false if they are none or too many. */
        boolean plan(int some) {
            if (some == 0 || Integer.bitCount(some) > MOST_ROUND) {
                return false;
            }
            if (some != set || changes != world.changes) {
                set = some;
                changes = world.changes;
                gather();
                measure();
                walk();
            }
            return true;
        }

        int townAt(int i) {
            return i >= 0 && i < count ? way[i] : NONE;
        }

        private void gather() {
            count = 0;
            for (int town = 0; town < world.towns && count < MOST_ROUND; town++) {
                if ((set >> town & 1) != 0) {
                    towns[count] = town;
                    count++;
                }
            }
            for (int i = 0; i < count; i++) {
                for (int j = 0; j < count; j++) {
                    between[i * MOST_ROUND + j] = world.milesBetween(towns[i], towns[j]);
                }
            }
        }

        private static int bitOf(int i) {
            return 1 << i >> 1;
        }

        private void measure() {
            int all = (1 << count - 1) - 1;
            for (int rest = 0; rest <= all; rest++) {
                for (int last = 0; last < count; last++) {
                    if ((rest & bitOf(last)) == 0) {
                        home[rest * MOST_ROUND + last] = fewestMiles(rest, last);
                    }
                }
            }
            miles = home[all * MOST_ROUND];
        }

        private int fewestMiles(int rest, int last) {
            if (rest == 0) {
                return between[last * MOST_ROUND];
            }
            int fewest = MOST_ROUND * FARTHEST;
            for (int next = 1; next < count; next++) {
                if ((rest & bitOf(next)) != 0) {
                    fewest = Math.min(fewest, milesBy(rest, last, next));
                }
            }
            return fewest;
        }

        private int milesBy(int rest, int last, int next) {
            return between[last * MOST_ROUND + next] + home[(rest ^ bitOf(next)) * MOST_ROUND + next];
        }

        private void walk() {
            int rest = (1 << count - 1) - 1;
            int last = 0;
            way[0] = towns[0];
            for (int i = 1; i < count; i++) {
                for (int next = 1; next < count; next++) {
                    boolean left = (rest & bitOf(next)) != 0;
                    if (left && milesBy(rest, last, next) == home[rest * MOST_ROUND + last]) {
                        way[i] = towns[next];
                        rest ^= bitOf(next);
                        last = next;
                        break;
                    }
                }
            }
        }
    }
}
