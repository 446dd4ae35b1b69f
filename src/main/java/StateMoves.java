import java.util.Arrays;

/**
 * State that is carried from one build of a program to another: values by keys, of classes with
 * members, moved by a text of rules, exactly or not at all.
 */
public final class StateMoves {
    public static final int NONE = -1, BAD = -2, FULL = -3, STATE = -4;

    private static final int BUILDS = 8;
    private static final int KINDS = 6;
    private static final int MEMBERS = 8;
    private static final int VALUES = 60;
    private static final int ROW = 8;
    private static final int LETTERS = 8;
    private static final int TEXT = 700;
    private static final int FED = 16;
    private static final int NEST = 20;
    private static final int WRONG = -10;

    private static final int TRUTH = 0, BYTE = 1, SHORT = 2, CHAR = 3, INT = 4, LONG = 5;
    private static final int FLOAT = 6, DOUBLE = 7;

    private static final int NOT_OF_TYPE = 1, BEYOND_LONG = 2, ONE_KEY = 3, BY_ZERO = 4;
    private static final int NO_ELEMENT = 5, UNKNOWN_CLASS = 6;

    /** Pieces of a text that are no single sign; a sign's kind is its own character. */
    private static final int END = 0, NO_PIECE = 1, NAME = 2, NUMBER = 3;
    private static final int KEY = 4, MOVE = 5, DROP = 6, TO = 7;

    /** The words that are no NAMES, told as NAMES are. */
    private static final long WORD_KEY = 0x6B6579L, WORD_MOVE = 0x6D6F7665L;
    private static final long WORD_DROP = 0x64726F70L, WORD_TO = 0x746FL;

    /** What a piece of worked-out code does; the signs of two sides stand for themselves. */
    private static final int PUSH_NUMBER = 1, PUSH_KEY = 2, PUSH_MEMBER = 3, PUSH_COUNT = 4;
    private static final int PICK_ELEMENT = 5, NEGATE = 6;

    /** The new KEY's slot among what RULES tell, behind those of the new MEMBERS. */
    private static final int KEY_SLOT = MEMBERS;

    private final Build[] builds = new Build[BUILDS];
    private final RuleSet[] ruleSets = new RuleSet[BUILDS * BUILDS];
    private final byte[] text = new byte[TEXT];
    private final Parser parser = new Parser();
    private final Carrier carrier = new Carrier();
    private Store state = new Store();
    private Store evenSpare = new Store();
    private Store oddSpare = new Store();
    private int textLength;
    private int ruleCount;
    private int unknownHow;

    public StateMoves() {
        for (int i = 0; i < BUILDS; i++) {
            builds[i] = new Build();
        }
    }

    public int type(int build, long name) {
        Build home = buildAt(build);
        if (home == null || !isName(name) || home.find(name) != NONE) {
            return BAD;
        }
        if (home.count >= KINDS) {
            return FULL;
        }
        return isInUse(build) ? STATE : home.append(name);
    }

    public int member(int build, int cls, long name, int type, boolean arrays) {
        Build home = buildAt(build);
        Kind kind = home == null ? null : home.kindAt(cls);
        if (kind == null || !isName(name) || kind.find(name) != NONE || type < TRUTH || type > DOUBLE) {
            return BAD;
        }
        if (kind.count >= MEMBERS) {
            return FULL;
        }
        return isInUse(build) ? STATE : kind.append(name, type, arrays);
    }

    public int begin(int build) {
        if (buildAt(build) == null) {
            return BAD;
        }
        int before = state.count;
        state.empty(build);
        return before;
    }

    public int value(long key, int cls) {
        Build home = buildAt(state.build);
        Kind kind = home == null ? null : home.kindAt(cls);
        if (kind == null) {
            return BAD;
        }
        if (state.find(key) != null) {
            return STATE;
        }
        return state.insert(key, cls, kind) == null ? FULL : state.count;
    }

    public int set(long key, int member, long bits) {
        Value held = state.find(key);
        if (held == null || !held.kind.has(member) || held.kind.isRow(member)) {
            return BAD;
        }
        if (!Numbers.isValue(bits, held.kind.typeAt(member))) {
            return NONE;
        }
        held.put(member, 0, bits);
        return 1;
    }

    public int add(long key, int member, long bits) {
        Value held = state.find(key);
        if (held == null || !held.kind.isRow(member)) {
            return BAD;
        }
        if (!Numbers.isValue(bits, held.kind.typeAt(member))) {
            return NONE;
        }
        int before = held.countOf(member);
        if (before >= ROW) {
            return FULL;
        }
        held.resize(member, before + 1);
        held.put(member, before, bits);
        return before + 1;
    }

    public int feed(long a, long b, int n) {
        if (n < 1 || n > FED) {
            return BAD;
        }
        if (textLength + n > TEXT) {
            return FULL;
        }
        for (int i = 0; i < n; i++) {
            long half = i < 8 ? a : b;
            text[textLength + i] = (byte) (half >>> (56 - 8 * (i & 7)));
        }
        textLength += n;
        return textLength;
    }

    public int rules(int from, int to) {
        // THE TEXT is used up by every call, also by one that is BAD.
        int length = textLength;
        textLength = 0;
        Build first = buildAt(from);
        Build second = buildAt(to);
        if (first == null || second == null || from == to) {
            return BAD;
        }
        RuleSet fresh = parser.read(text, length, first, second);
        if (fresh == null) {
            return WRONG - parser.wrongPlace();
        }
        if (rulesFrom(from, to) == null) {
            ruleCount++;
        }
        ruleSets[from * BUILDS + to] = fresh;
        return fresh.moveCount;
    }

    public boolean forget(int from, int to) {
        if (rulesFrom(from, to) == null) {
            return false;
        }
        ruleSets[from * BUILDS + to] = null;
        ruleCount--;
        return true;
    }

    public int unknown(int how) {
        if (how != 0 && how != 1) {
            return BAD;
        }
        int before = unknownHow;
        unknownHow = how;
        return before;
    }

    public int carry(int build) {
        return travel(build, true);
    }

    public int dry(int build) {
        return travel(build, false);
    }

    public int refused(int what) {
        switch (what) {
            case 0:
                return carrier.why;
            case 1:
                return carrier.refusedClass;
            case 2:
                return carrier.refusedMember;
            case 3:
                return carrier.refusedStep;
            default:
                return BAD;
        }
    }

    public long refusedKey(boolean second) {
        return second ? carrier.otherKey : carrier.oldKey;
    }

    public int lost(int what) {
        switch (what) {
            case 0:
                return carrier.lostMembers;
            case 1:
                return carrier.droppedValues;
            default:
                return BAD;
        }
    }

    public int told(int what) {
        switch (what) {
            case 0:
                return state.build;
            case 1:
                return state.count;
            case 2:
                return ruleCount;
            default:
                return BAD;
        }
    }

    public long key(int i) {
        Value held = state.at(i);
        return held == null ? 0 : held.key;
    }

    public int classOf(long key) {
        Value held = state.find(key);
        return held == null ? NONE : held.cls;
    }

    public int many(long key, int member) {
        Value held = state.find(key);
        return held == null || !held.kind.has(member) ? BAD : held.countOf(member);
    }

    public long bits(long key, int member, int k) {
        Value held = state.find(key);
        return held == null || !held.kind.has(member) ? 0 : held.bitsAt(member, k);
    }

    private Build buildAt(int build) {
        return build >= 0 && build < BUILDS ? builds[build] : null;
    }

    private RuleSet rulesFrom(int from, int to) {
        if (from < 0 || from >= BUILDS || to < 0 || to >= BUILDS) {
            return null;
        }
        return ruleSets[from * BUILDS + to];
    }

    /** RULES and VALUES lean on the CLASSES as they stand, so a BUILD in use takes no more. */
    private boolean isInUse(int build) {
        if (state.build == build && state.count > 0) {
            return true;
        }
        for (int other = 0; other < BUILDS; other++) {
            if (rulesFrom(build, other) != null || rulesFrom(other, build) != null) {
                return true;
            }
        }
        return false;
    }

    /** A NAME: letters without a byte 0 among or behind them, and none of the four words. */
    private static boolean isName(long name) {
        long rest = name;
        for (int i = 0; i < LETTERS && rest != 0; i++) {
            long letter = rest & 0xFF;
            if (letter < 'a' || letter > 'z') {
                return false;
            }
            rest >>>= 8;
        }
        return name != 0 && Pieces.kindOfWord(name) == NAME;
    }

    /** Carries THE STATE in spare stores, so that a REFUSED or dry carrying leaves it alone. */
    private int travel(int build, boolean forGood) {
        if (buildAt(build) == null || build == state.build) {
            return BAD;
        }
        int stride = strideTo(build);
        if (stride == 0) {
            return STATE;
        }
        carrier.start(unknownHow == 1);
        Store reached = state;
        for (int step = 0; step < BUILDS && reached.build != build; step++) {
            Store next = step % 2 == 0 ? evenSpare : oddSpare;
            next.empty(reached.build + stride);
            RuleSet ruleSet = rulesFrom(reached.build, next.build);
            if (ruleSet == null || !carrier.takeStep(reached, next, ruleSet, step)) {
                return NONE;
            }
            reached = next;
        }
        carrier.finish();
        if (forGood) {
            keep(reached);
        }
        return reached.count;
    }

    /** How far one step goes from THE STATE's BUILD to another; 0: no RULES lead there. */
    private int strideTo(int build) {
        int here = state.build;
        if (rulesFrom(here, build) != null) {
            return build - here;
        }
        int stride = build > here ? 1 : -1;
        for (int i = 0; i < BUILDS && here != build; i++) {
            if (rulesFrom(here, here + stride) == null) {
                return 0;
            }
            here += stride;
        }
        return stride;
    }

    private void keep(Store reached) {
        if (reached == evenSpare) {
            evenSpare = state;
        } else {
            oddSpare = state;
        }
        state = reached;
    }

    /** The CLASSES of a BUILD. */
    private static final class Build {
        final Kind[] kinds = new Kind[KINDS];
        int count;

        Kind kindAt(int cls) {
            return cls >= 0 && cls < count ? kinds[cls] : null;
        }

        int find(long name) {
            for (int i = 0; i < count; i++) {
                Kind kind = kinds[i];
                if (kind != null && kind.name == name) {
                    return i;
                }
            }
            return NONE;
        }

        int append(long name) {
            if (count >= KINDS) {
                return FULL;
            }
            kinds[count] = new Kind(name);
            count++;
            return count - 1;
        }
    }

    /** A CLASS and its MEMBERS. */
    private static final class Kind {
        final long name;
        final long[] names = new long[MEMBERS];
        final int[] types = new int[MEMBERS];
        final boolean[] rows = new boolean[MEMBERS];
        int count;

        Kind(long name) {
            this.name = name;
        }

        boolean has(int member) {
            return member >= 0 && member < count;
        }

        boolean isRow(int member) {
            return member >= 0 && member < count && rows[member];
        }

        int typeAt(int member) {
            return member >= 0 && member < count ? types[member] : LONG;
        }

        int find(long wanted) {
            for (int i = 0; i < count; i++) {
                if (names[i] == wanted) {
                    return i;
                }
            }
            return NONE;
        }

        int append(long fresh, int type, boolean row) {
            if (count >= MEMBERS) {
                return FULL;
            }
            names[count] = fresh;
            types[count] = type;
            rows[count] = row;
            count++;
            return count - 1;
        }
    }

    /** A VALUE. What is not in ARRAYS is held as a row of just one. */
    private static final class Value {
        final int[] counts = new int[MEMBERS];
        final long[] slots = new long[MEMBERS * ROW];
        long key;
        long oldKey;
        int cls;
        Kind kind;

        Value(Kind kind) {
            this.kind = kind;
        }

        void restart(long freshKey, int freshClass, Kind freshKind) {
            key = freshKey;
            oldKey = freshKey;
            cls = freshClass;
            kind = freshKind;
            Arrays.fill(slots, 0L);
            for (int i = 0; i < MEMBERS; i++) {
                counts[i] = freshKind.isRow(i) ? 0 : 1;
            }
        }

        int countOf(int member) {
            return member >= 0 && member < MEMBERS ? counts[member] : 0;
        }

        long bitsAt(int member, int k) {
            if (member < 0 || member >= MEMBERS || k < 0 || k >= counts[member] || k >= ROW) {
                return 0;
            }
            return slots[member * ROW + k];
        }

        void resize(int member, int count) {
            if (member >= 0 && member < MEMBERS && count >= 0 && count <= ROW) {
                counts[member] = count;
            }
        }

        void put(int member, int k, long bits) {
            if (member >= 0 && member < MEMBERS && k >= 0 && k < ROW) {
                slots[member * ROW + k] = bits;
            }
        }

        boolean isFirst(int member) {
            return kind.isRow(member) ? countOf(member) == 0 : bitsAt(member, 0) == 0;
        }
    }

    /** VALUES of a BUILD, by KEYS; those behind the count are kept to be used again. */
    private static final class Store {
        final Value[] values = new Value[VALUES];
        int build;
        int count;

        void empty(int freshBuild) {
            build = freshBuild;
            count = 0;
        }

        Value at(int i) {
            return i >= 0 && i < count ? values[i] : null;
        }

        Value find(long key) {
            for (int i = 0; i < count; i++) {
                Value held = values[i];
                if (held != null && held.key == key) {
                    return held;
                }
            }
            return null;
        }

        /** A VALUE comes behind those of its own KEY, so that these stay as they came. */
        Value insert(long key, int cls, Kind kind) {
            if (count >= VALUES) {
                return null;
            }
            Value fresh = values[count] == null ? new Value(kind) : values[count];
            fresh.restart(key, cls, kind);
            int place = count;
            for (int i = count - 1; i >= 0; i--) {
                Value before = values[i];
                if (before == null || before.key <= key) {
                    break;
                }
                values[i + 1] = before;
                place = i;
            }
            values[place] = fresh;
            count++;
            return fresh;
        }
    }

    /** What bits are values of a TYPE, and which of them are values of another one, just so. */
    private static final class Numbers {
        private static final long FLOAT_NAN = 0x7FC00000L;
        private static final long DOUBLE_NAN = 0x7FF8000000000000L;
        private static final long DOUBLE_INFINITY = 0x7FF0000000000000L;
        private static final long SIGN = 0x8000000000000000L;
        private static final long FRACTION = 0x000FFFFFFFFFFFFFL;
        private static final long HIDDEN = 0x0010000000000000L;
        private static final int FRACTION_BITS = 52, BIAS = 1023, TOP_EXPONENT = 2047;
        private static final int FLOAT_BITS = 23, FLOAT_BIAS = 127, FLOAT_TOP = 255;
        private static final int FLOAT_LEAST = -149, FLOAT_LEAST_NORMAL = -126;
        private static final long FLOAT_FRACTION = 0x7FFFFFL;

        static boolean isValue(long bits, int type) {
            switch (type) {
                case TRUTH:
                    return bits == 0 || bits == 1;
                case BYTE:
                    return bits == (byte) bits;
                case SHORT:
                    return bits == (short) bits;
                case CHAR:
                    return bits == (char) bits;
                case INT:
                    return bits == (int) bits;
                case LONG:
                    return true;
                case FLOAT:
                    return bits == (int) bits && (bits == FLOAT_NAN || (bits & 0x7FFFFFFFL) <= 0x7F800000L);
                case DOUBLE:
                    return bits == DOUBLE_NAN || (bits & ~SIGN) <= DOUBLE_INFINITY;
                default:
                    return false;
            }
        }

        /** Whether a value of one TYPE is one of another, just so. */
        static boolean fits(long bits, int from, int to) {
            if (from < FLOAT && to < FLOAT) {
                return isValue(bits, to);
            }
            if (from < FLOAT) {
                return hasDouble(bits) && (to == DOUBLE || hasFloat(doubleOf(bits)));
            }
            long wide = from == FLOAT ? widened(bits) : bits;
            if (to >= FLOAT) {
                return to == DOUBLE || hasFloat(wide);
            }
            return hasWhole(wide) && isValue(wholeOf(wide), to);
        }

        /** The bits of a value that fits the other TYPE. */
        static long turned(long bits, int from, int to) {
            if (from == to || (from < FLOAT && to < FLOAT)) {
                return bits;
            }
            if (from < FLOAT) {
                return to == DOUBLE ? doubleOf(bits) : floatOf(doubleOf(bits));
            }
            long wide = from == FLOAT ? widened(bits) : bits;
            if (to >= FLOAT) {
                return to == DOUBLE ? wide : floatOf(wide);
            }
            return wholeOf(wide);
        }

        private static boolean hasDouble(long whole) {
            long size = whole < 0 ? -whole : whole;
            int spread = 63 - Long.numberOfLeadingZeros(size) - Long.numberOfTrailingZeros(size);
            return whole == 0 || spread <= FRACTION_BITS;
        }

        private static long doubleOf(long whole) {
            if (whole == 0) {
                return 0;
            }
            long size = whole < 0 ? -whole : whole;
            int top = 63 - Long.numberOfLeadingZeros(size);
            long fraction = top <= FRACTION_BITS ? size << (FRACTION_BITS - top) : size >>> (top - FRACTION_BITS);
            return (whole & SIGN) | ((long) (top + BIAS) << FRACTION_BITS) | (fraction & FRACTION);
        }

        /** Of a DOUBLE; what is less than 1 is no whole number, but for 0, and -0 is none. */
        private static boolean hasWhole(long wide) {
            int exponent = exponentOf(wide);
            if (exponent < 0 || exponent > 63) {
                return wide == 0;
            }
            if (exponent == 63) {
                return (wide & SIGN) != 0 && (wide & FRACTION) == 0;
            }
            return exponent >= FRACTION_BITS || (wide & (FRACTION >>> exponent)) == 0;
        }

        private static long wholeOf(long wide) {
            int exponent = exponentOf(wide);
            if (exponent < 0 || exponent > 63) {
                return 0;
            }
            long parts = (wide & FRACTION) | HIDDEN;
            long size = exponent >= FRACTION_BITS
                    ? parts << (exponent - FRACTION_BITS)
                    : parts >>> (FRACTION_BITS - exponent);
            return wide < 0 ? -size : size;
        }

        private static int exponentOf(long wide) {
            return ((int) (wide >>> FRACTION_BITS) & TOP_EXPONENT) - BIAS;
        }

        private static boolean hasFloat(long wide) {
            int exponent = exponentOf(wide);
            if (exponent == TOP_EXPONENT - BIAS || (wide & ~SIGN) == 0) {
                return true;
            }
            if (exponent < FLOAT_LEAST || exponent > FLOAT_BIAS) {
                return false;
            }
            long cut = (1L << cutBits(exponent)) - 1;
            return (((wide & FRACTION) | HIDDEN) & cut) == 0;
        }

        /** How many low bits of a DOUBLE a FLOAT of this exponent has no place for. */
        private static int cutBits(int exponent) {
            int usual = FRACTION_BITS - FLOAT_BITS;
            return exponent >= FLOAT_LEAST_NORMAL ? usual : usual + FLOAT_LEAST_NORMAL - exponent;
        }

        private static long floatOf(long wide) {
            int exponent = exponentOf(wide);
            long size;
            if (exponent == TOP_EXPONENT - BIAS) {
                size = (wide & FRACTION) == 0 ? (long) FLOAT_TOP << FLOAT_BITS : FLOAT_NAN;
            } else if (exponent < FLOAT_LEAST || exponent > FLOAT_BIAS) {
                size = 0;
            } else if (exponent < FLOAT_LEAST_NORMAL) {
                size = ((wide & FRACTION) | HIDDEN) >>> cutBits(exponent);
            } else {
                size = ((long) (exponent + FLOAT_BIAS) << FLOAT_BITS) | ((wide & FRACTION) >>> cutBits(exponent));
            }
            return (int) ((wide & SIGN) >>> 32 | size);
        }

        /** A FLOAT's value as a DOUBLE: there is always one. */
        private static long widened(long bits) {
            long sign = bits & SIGN;
            int exponent = (int) (bits >>> FLOAT_BITS) & FLOAT_TOP;
            long fraction = bits & FLOAT_FRACTION;
            if (exponent == FLOAT_TOP) {
                return fraction == 0 ? sign | DOUBLE_INFINITY : DOUBLE_NAN;
            }
            if (exponent == 0 && fraction == 0) {
                return sign;
            }
            // A FLOAT so small that it has no leading 1 of its own gets one as a DOUBLE.
            int top = exponent == 0 ? 63 - Long.numberOfLeadingZeros(fraction) : FLOAT_BITS;
            int power = exponent == 0 ? top + FLOAT_LEAST : exponent - FLOAT_BIAS;
            return sign | ((long) (power + BIAS) << FRACTION_BITS) | ((fraction << (FRACTION_BITS - top)) & FRACTION);
        }
    }

    /** A text cut into pieces, with an END behind them. */
    private static final class Pieces {
        private static final long GREATEST = 2147483647L;

        final int[] kinds = new int[TEXT + 1];
        final int[] places = new int[TEXT + 1];
        final long[] words = new long[TEXT + 1];
        int count;
        private int reached;

        int kindAt(int i) {
            return i >= 0 && i < count ? kinds[i] : END;
        }

        void split(byte[] text, int length) {
            count = 0;
            reached = 0;
            int bound = Math.min(Math.min(length, TEXT), text.length);
            for (int i = 0; i < TEXT && reached < bound; i++) {
                byte sign = text[reached];
                if (sign == ' ' || sign == '\n') {
                    reached++;
                } else if (sign >= 'a' && sign <= 'z') {
                    cutWord(text, bound);
                } else if (sign >= '0' && sign <= '9') {
                    cutNumber(text, bound);
                } else {
                    append(isSign(sign) ? sign : NO_PIECE, reached, 0);
                    reached++;
                }
            }
            append(END, bound, 0);
        }

        static int kindOfWord(long word) {
            if (word == WORD_KEY) {
                return KEY;
            }
            if (word == WORD_MOVE) {
                return MOVE;
            }
            if (word == WORD_DROP) {
                return DROP;
            }
            return word == WORD_TO ? TO : NAME;
        }

        private void cutWord(byte[] text, int bound) {
            int place = reached;
            long word = 0;
            for (; reached < bound && text[reached] >= 'a' && text[reached] <= 'z'; reached++) {
                word = (word << 8) | text[reached];
            }
            append(reached - place > LETTERS ? NO_PIECE : kindOfWord(word), place, word);
        }

        private void cutNumber(byte[] text, int bound) {
            int place = reached;
            long number = 0;
            for (; reached < bound && text[reached] >= '0' && text[reached] <= '9'; reached++) {
                number = Math.min(number * 10 + (text[reached] - '0'), GREATEST + 1);
            }
            append(number > GREATEST ? NO_PIECE : NUMBER, place, number);
        }

        private static boolean isSign(byte sign) {
            switch (sign) {
                case '{':
                case '}':
                case '(':
                case ')':
                case '[':
                case ']':
                case ';':
                case '=':
                case '+':
                case '-':
                case '*':
                case '/':
                case '%':
                case '#':
                    return true;
                default:
                    return false;
            }
        }

        private void append(int kind, int place, long word) {
            if (count <= TEXT) {
                kinds[count] = kind;
                places[count] = place;
                words[count] = word;
                count++;
            }
        }
    }

    /** What becomes of the VALUES of one CLASS; without a target they are dropped. */
    private static final class Move {
        final int target;
        final int[] copied = new int[MEMBERS];
        final int[] starts = new int[MEMBERS + 1];
        final int[] ends = new int[MEMBERS + 1];
        final boolean[] ahead = new boolean[MEMBERS + 1];
        final boolean[] dropped = new boolean[MEMBERS];
        /** Old MEMBERS that can't be LOST: dropped, told in an E, or gone to one of their NAME. */
        final boolean[] kept = new boolean[MEMBERS];

        Move(int target) {
            this.target = target;
            for (int i = 0; i < MEMBERS; i++) {
                copied[i] = NONE;
            }
        }

        boolean isWorked(int slot) {
            return slot >= 0 && slot <= MEMBERS && starts[slot] < ends[slot];
        }

        void work(int slot, int start, int end) {
            if (slot >= 0 && slot <= MEMBERS) {
                starts[slot] = start;
                ends[slot] = end;
            }
        }

        /** A slot stands ahead of =: whether it may. */
        boolean claim(int slot) {
            if (slot < 0 || slot > MEMBERS || ahead[slot]) {
                return false;
            }
            ahead[slot] = true;
            return true;
        }

        boolean drop(int source) {
            if (source < 0 || source >= MEMBERS || dropped[source]) {
                return false;
            }
            dropped[source] = true;
            kept[source] = true;
            return true;
        }

        void copy(int slot, int source) {
            if (slot >= 0 && slot < MEMBERS && source >= 0 && source < MEMBERS) {
                copied[slot] = source;
                kept[source] = true;
            }
        }

        void mention(int source) {
            if (source >= 0 && source < MEMBERS) {
                kept[source] = true;
            }
        }

        /** New MEMBERS without a RULE take the old ones of their NAMES. */
        void inherit(Kind oldKind, Kind newKind) {
            for (int i = 0; i < newKind.count && i < MEMBERS; i++) {
                int source = ahead[i] ? NONE : oldKind.find(newKind.names[i]);
                if (source != NONE && !dropped[source] && oldKind.isRow(source) == newKind.isRow(i)) {
                    copy(i, source);
                }
            }
        }
    }

    /** The RULES from a BUILD to another one; a CLASS without a Move is UNKNOWN. */
    private static final class RuleSet {
        final Move[] moves;
        final int[] codes;
        final int[] operands;
        final Build second;
        final int moveCount;

        RuleSet(Move[] moves, int[] codes, int[] operands, Build second, int moveCount) {
            this.moves = moves;
            this.codes = codes;
            this.operands = operands;
            this.second = second;
            this.moveCount = moveCount;
        }

        Move moveOf(int cls) {
            return cls >= 0 && cls < moves.length ? moves[cls] : null;
        }
    }

    /** Reads a text of RULES; each E becomes code in the order in which it is worked out. */
    private static final class Parser {
        private final Pieces pieces = new Pieces();
        private final Kind nothing = new Kind(0);
        private final int[] codes = new int[TEXT];
        private final int[] operands = new int[TEXT];
        private int codeLength;
        private Build first = new Build();
        private Build second = first;
        private Move[] moves = new Move[KINDS];
        private int moveCount;
        private Kind oldKind = nothing;
        private Kind newKind = nothing;
        /** The MOVE whose RULES are read, while one is move. */
        private Move move = new Move(NONE);
        private boolean isOpen;
        private int at;
        /** Once a piece can't stand there no more are taken: it stays the one that is at hand. */
        private boolean failed;
        private int notedPlace;

        /** The RULES, or null: then the text is WRONG. */
        RuleSet read(byte[] text, int length, Build from, Build to) {
            restart(from, to);
            pieces.split(text, length);
            for (int i = 0; i <= TEXT && !failed && (isOpen || kind() != END); i++) {
                if (!isOpen) {
                    readHead();
                } else if (kind() == '}') {
                    move.inherit(oldKind, newKind);
                    isOpen = false;
                    at++;
                } else {
                    readRule();
                }
            }
            if (wrongPlace() != NONE) {
                return null;
            }
            moveByName();
            return new RuleSet(moves, Arrays.copyOf(codes, codeLength), Arrays.copyOf(operands, codeLength),
                    second, moveCount);
        }

        /** NONE: the text is not WRONG. A piece that can't stand there comes ahead of all else. */
        int wrongPlace() {
            if (failed) {
                return place();
            }
            return notedPlace <= TEXT ? notedPlace : NONE;
        }

        private void restart(Build from, Build to) {
            first = from;
            second = to;
            moves = new Move[KINDS];
            moveCount = 0;
            codeLength = 0;
            oldKind = nothing;
            newKind = nothing;
            isOpen = false;
            at = 0;
            failed = false;
            notedPlace = TEXT + 1;
        }

        private int kind() {
            return at >= 0 && at <= TEXT ? pieces.kinds[at] : END;
        }

        private long word() {
            return at >= 0 && at <= TEXT ? pieces.words[at] : 0;
        }

        private int place() {
            return at >= 0 && at <= TEXT ? pieces.places[at] : TEXT;
        }

        private void note(int place) {
            if (place < notedPlace) {
                notedPlace = place;
            }
        }

        private void take(int wanted) {
            if (!failed && at >= 0 && at < TEXT && pieces.kinds[at] == wanted) {
                at++;
            } else {
                failed = true;
            }
        }

        private void emit(int code, int operand) {
            if (codeLength < TEXT) {
                codes[codeLength] = code;
                operands[codeLength] = operand;
                codeLength++;
            }
        }

        /** A drop of a CLASS, or a MOVE as far as its RULES. */
        private void readHead() {
            boolean moving = kind() == MOVE;
            if (!moving && kind() != DROP) {
                failed = true;
                return;
            }
            at++;
            int cls = first.find(word());
            boolean isFresh = cls >= 0 && cls < KINDS && moves[cls] == null;
            if (!isFresh) {
                note(place());
            }
            take(NAME);
            move = new Move(moving ? readTarget(cls) : NONE);
            isOpen = moving;
            if (!moving) {
                take(';');
            }
            if (isFresh) {
                moves[cls] = move;
            }
            moveCount++;
        }

        private int readTarget(int cls) {
            take(TO);
            int target = second.find(word());
            if (target == NONE) {
                note(place());
            }
            take(NAME);
            take('{');
            Kind from = first.kindAt(cls);
            Kind to = second.kindAt(target);
            oldKind = from == null ? nothing : from;
            newKind = to == null ? nothing : to;
            return target;
        }

        private void readRule() {
            int kind = kind();
            if (kind == DROP) {
                at++;
                if (!move.drop(oldKind.find(word()))) {
                    note(place());
                }
                take(NAME);
            } else if (kind == KEY || kind == NAME) {
                int slot = kind == KEY ? KEY_SLOT : newKind.find(word());
                if (!move.claim(slot)) {
                    note(place());
                }
                at++;
                take('=');
                readWork(slot);
            } else {
                failed = true;
            }
            take(';');
        }

        /** The E of a RULE: just a NAME, which may be of anything but for the KEY, or to be worked out. */
        private void readWork(int slot) {
            if (failed) {
                return;
            }
            int place = place();
            boolean isRow = newKind.isRow(slot);
            if (slot != KEY_SLOT && kind() == NAME && pieces.kindAt(at + 1) == ';') {
                int source = oldKind.find(word());
                if (source == NONE || oldKind.isRow(source) != isRow) {
                    note(place);
                }
                move.copy(slot, source);
                at++;
                return;
            }
            int start = codeLength;
            readSum(0);
            if (isRow) {
                note(place);
            }
            move.work(slot, start, codeLength);
        }

        /** A + or - waits for the whole of its right side, a * / % just for the next factor. */
        private void readSum(int depth) {
            int waiting = END;
            readFactor(depth);
            for (int i = 0; i < TEXT && !failed; i++) {
                int sign = kind();
                if (sign == '+' || sign == '-') {
                    if (waiting != END) {
                        emit(waiting, 0);
                    }
                    waiting = sign;
                    at++;
                    readFactor(depth);
                } else if (sign == '*' || sign == '/' || sign == '%') {
                    at++;
                    readFactor(depth);
                    emit(sign, 0);
                } else {
                    break;
                }
            }
            if (waiting != END) {
                emit(waiting, 0);
            }
        }

        private void readFactor(int depth) {
            int kind = kind();
            if (kind == NUMBER) {
                emit(PUSH_NUMBER, (int) word());
                at++;
            } else if (kind == KEY) {
                emit(PUSH_KEY, 0);
                at++;
            } else if (kind == NAME) {
                readNamed(depth);
            } else if (kind == '#') {
                at++;
                readCount();
            } else if (kind == '-' && depth < NEST) {
                at++;
                readFactor(depth + 1);
                emit(NEGATE, 0);
            } else if (kind == '(' && depth < NEST) {
                at++;
                readSum(depth + 1);
                take(')');
            } else {
                failed = true;
            }
        }

        private void readNamed(int depth) {
            int source = oldKind.find(word());
            int place = place();
            at++;
            boolean isPicked = kind() == '[';
            if (source == NONE || oldKind.isRow(source) != isPicked || oldKind.typeAt(source) >= FLOAT) {
                note(place);
            }
            move.mention(source);
            if (!isPicked) {
                emit(PUSH_MEMBER, source);
            } else if (depth < NEST) {
                at++;
                readSum(depth + 1);
                take(']');
                emit(PICK_ELEMENT, source);
            } else {
                failed = true;
            }
        }

        private void readCount() {
            int source = oldKind.find(word());
            if (!oldKind.isRow(source)) {
                note(place());
            }
            move.mention(source);
            emit(PUSH_COUNT, source);
            take(NAME);
        }

        /** CLASSES that no MOVE tells of go to those of their NAMES, if there are such. */
        private void moveByName() {
            for (int i = 0; i < first.count && i < KINDS; i++) {
                Kind from = first.kindAt(i);
                int target = from == null ? NONE : second.find(from.name);
                Kind to = second.kindAt(target);
                if (moves[i] == null && from != null && to != null) {
                    Move plain = new Move(target);
                    plain.inherit(from, to);
                    moves[i] = plain;
                }
            }
        }
    }

    /** Works out the code of an E for a VALUE. */
    private static final class Reckoner {
        /** Each of the levels within one another keeps two sides waiting at the most. */
        private static final int DEPTH = 2 * NEST + 8;
        private static final long LEAST = 0x8000000000000000L;

        private final long[] stack = new long[DEPTH];
        private int height;
        int why;
        long answer;

        boolean reckon(RuleSet ruleSet, Move move, int slot, Value old) {
            height = 0;
            why = 0;
            int bound = Math.min(move.ends[slot], Math.min(ruleSet.codes.length, ruleSet.operands.length));
            for (int i = Math.max(move.starts[slot], 0); i < bound && why == 0; i++) {
                int code = ruleSet.codes[i];
                int operand = ruleSet.operands[i];
                if (code <= PUSH_COUNT) {
                    push(loaded(code, operand, old));
                } else if (code == PICK_ELEMENT) {
                    push(picked(pop(), operand, old));
                } else if (code == NEGATE) {
                    push(difference(0, pop()));
                } else {
                    long right = pop();
                    push(combined(code, pop(), right));
                }
            }
            answer = pop();
            return why == 0;
        }

        private void push(long number) {
            if (height < DEPTH) {
                stack[height] = number;
                height++;
            }
        }

        private long pop() {
            if (height <= 0) {
                return 0;
            }
            height--;
            return stack[height];
        }

        private static long loaded(int code, int operand, Value old) {
            switch (code) {
                case PUSH_KEY:
                    return old.key;
                case PUSH_MEMBER:
                    return old.bitsAt(operand, 0);
                case PUSH_COUNT:
                    return old.countOf(operand);
                default:
                    return operand;
            }
        }

        private long picked(long index, int member, Value old) {
            if (index < 0 || index >= old.countOf(member)) {
                why = NO_ELEMENT;
                return 0;
            }
            return old.bitsAt(member, (int) index);
        }

        private long combined(int sign, long left, long right) {
            switch (sign) {
                case '+':
                    return total(left, right);
                case '-':
                    return difference(left, right);
                case '*':
                    return product(left, right);
                case '/':
                    return quotient(left, right);
                default:
                    return remainder(left, right);
            }
        }

        private long total(long left, long right) {
            long whole = left + right;
            if (((left ^ whole) & (right ^ whole)) < 0) {
                why = BEYOND_LONG;
            }
            return whole;
        }

        private long difference(long left, long right) {
            long rest = left - right;
            if (((left ^ right) & (left ^ rest)) < 0) {
                why = BEYOND_LONG;
            }
            return rest;
        }

        private long product(long left, long right) {
            long whole = left * right;
            if (right == -1 ? left == LEAST : right != 0 && whole / right != left) {
                why = BEYOND_LONG;
            }
            return whole;
        }

        private long quotient(long left, long right) {
            if (right == 0) {
                why = BY_ZERO;
                return 0;
            }
            if (right == -1 && left == LEAST) {
                why = BEYOND_LONG;
                return 0;
            }
            return left / right;
        }

        private long remainder(long left, long right) {
            if (right == 0) {
                why = BY_ZERO;
                return 0;
            }
            return right == -1 ? 0 : left % right;
        }
    }

    /** Takes VALUES from one BUILD to another, and keeps what was REFUSED or LOST. */
    private static final class Carrier {
        private final Reckoner reckoner = new Reckoner();
        int why = NONE;
        int refusedClass = NONE;
        int refusedMember = NONE;
        int refusedStep = NONE;
        long oldKey;
        long otherKey;
        int lostMembers;
        int droppedValues;
        private boolean dropsUnknown;
        private int losing;
        private int dropping;
        private int step;

        void start(boolean drops) {
            dropsUnknown = drops;
            losing = 0;
            dropping = 0;
        }

        void finish() {
            lostMembers = losing;
            droppedValues = dropping;
        }

        boolean takeStep(Store from, Store to, RuleSet ruleSet, int number) {
            step = number;
            for (int i = 0; i < from.count; i++) {
                Value old = from.at(i);
                if (old != null && !takeValue(old, to, ruleSet)) {
                    return false;
                }
            }
            for (int i = 1; i < to.count; i++) {
                Value one = to.at(i - 1);
                Value two = to.at(i);
                if (one != null && two != null && one.key == two.key) {
                    return refuse(ONE_KEY, NONE, NONE, one.oldKey, two.oldKey);
                }
            }
            return true;
        }

        private boolean takeValue(Value old, Store to, RuleSet ruleSet) {
            Move move = ruleSet.moveOf(old.cls);
            if (move == null && !dropsUnknown) {
                return refuse(UNKNOWN_CLASS, old.cls, NONE, old.key, 0);
            }
            Kind kind = move == null ? null : ruleSet.second.kindAt(move.target);
            if (kind == null) {
                dropping++;
                return true;
            }
            long key = old.key;
            if (move.isWorked(KEY_SLOT)) {
                if (!reckoner.reckon(ruleSet, move, KEY_SLOT, old)) {
                    return refuse(reckoner.why, old.cls, NONE, old.key, 0);
                }
                key = reckoner.answer;
            }
            Value fresh = to.insert(key, move.target, kind);
            if (fresh == null) {
                return true;
            }
            fresh.oldKey = old.key;
            for (int i = 0; i < kind.count && i < MEMBERS; i++) {
                int fault = fill(fresh, i, old, ruleSet, move);
                if (fault != 0) {
                    return refuse(fault, old.cls, i, old.key, 0);
                }
            }
            countLost(old, move);
            return true;
        }

        /** Why a new MEMBER can't have what comes to it; 0: it has it. */
        private int fill(Value fresh, int member, Value old, RuleSet ruleSet, Move move) {
            int type = fresh.kind.typeAt(member);
            if (move.isWorked(member)) {
                if (!reckoner.reckon(ruleSet, move, member, old)) {
                    return reckoner.why;
                }
                if (!Numbers.fits(reckoner.answer, LONG, type)) {
                    return NOT_OF_TYPE;
                }
                fresh.put(member, 0, Numbers.turned(reckoner.answer, LONG, type));
                return 0;
            }
            int source = move.copied[member];
            if (source == NONE) {
                return 0;
            }
            int sourceType = old.kind.typeAt(source);
            int many = old.countOf(source);
            for (int k = 0; k < many; k++) {
                long bits = old.bitsAt(source, k);
                if (!Numbers.fits(bits, sourceType, type)) {
                    return NOT_OF_TYPE;
                }
                fresh.put(member, k, Numbers.turned(bits, sourceType, type));
            }
            fresh.resize(member, many);
            return 0;
        }

        private void countLost(Value old, Move move) {
            for (int i = 0; i < old.kind.count && i < MEMBERS; i++) {
                if (!move.kept[i] && !old.isFirst(i)) {
                    losing++;
                }
            }
        }

        private boolean refuse(int fault, int cls, int member, long key, long other) {
            why = fault;
            refusedClass = cls;
            refusedMember = member;
            refusedStep = step;
            oldKey = key;
            otherKey = other;
            return false;
        }
    }
}
