import java.util.Arrays;

/** A house of four small languages that call one another; the document's terms are used as they stand there. */
public final class FourTongues {
    public static final int NONE = -1;

    private static final int TONGUES = 4;
    private static final int THROWS = 0;
    private static final int CODES = 1;
    private static final int VALUES = 2;
    private static final int EXITS = 3;

    private static final int ZERO = 1;
    private static final int INDEX = 2;
    private static final int NOTHING = 3;
    private static final int SORT = 4;
    private static final int SIZE = 5;
    private static final int DEEP = 6;
    private static final int TRAP = 7;
    private static final int LOST = 8;
    private static final int BORDER = 9;
    private static final int ANY = 10;
    private static final int MACHINE = 11;

    private static final int TAPE_MOST = 3000;
    private static final int NO_LOAD = -5000;

    private final byte[] tape = new byte[TAPE_MOST];
    private int taped = 0;
    private int faultKind = 0;
    private final Names names = new Names();
    private final Borders borders = new Borders();
    private final Program[] programs = new Program[TONGUES];
    private Program draft = new Program();
    private final Parser parser = new Parser(tape, names, draft);
    private final Machine machine = new Machine(programs, names, borders, draft);

    public FourTongues() {
        for (int t = 0; t < TONGUES; t++) {
            programs[t] = new Program();
        }
    }

    public int feed(int a, int b, int c, int d, int e) {
        if (taped + 20 > TAPE_MOST) {
            return NONE;
        }
        addBytes(a);
        addBytes(b);
        addBytes(c);
        addBytes(d);
        addBytes(e);
        return taped;
    }

    public int load(int t, int n) {
        if (!isTongue(t) || n < 0 || n > taped) {
            return NO_LOAD;
        }
        taped = 0;
        names.keep();
        parser.parse(t, n, draft);
        faultKind = parser.faultKind();
        if (faultKind != 0) {
            names.giveBack();
            return -parser.faultPlace() - 1;
        }
        Program old = programs[t];
        programs[t] = draft;
        draft = old;
        return programs[t].functions();
    }

    public int fault() {
        return faultKind;
    }

    public int letter(int name, int k) {
        return names.letterOf(name, k);
    }

    public boolean rule(int from, int to, int rule) {
        if (!isTongue(from) || !isTongue(to) || from == to || rule < 0 || rule > 2) {
            return false;
        }
        borders.setRule(from, to, rule);
        return true;
    }

    public boolean entry(int from, int to, int what, int as) {
        if (!isTongue(from) || !isTongue(to) || from == to) {
            return false;
        }
        if (!canFail(to, as)) {
            return false;
        }
        if (what == 0) {
            borders.setDefault(from, to, as);
            return true;
        }
        return canFail(from, what) && borders.setEntry(from, to, what, as);
    }

    public int call(int t, int f, long a) {
        if (!isTongue(t) || f < 0 || f >= programs[t].functions()) {
            return 3;
        }
        if (!Numbers.has(t, a)) {
            return 4;
        }
        return machine.run(t, f, a);
    }

    public int look(int what) {
        if (what == 10) {
            return names.inAll();
        }
        return machine.told(what);
    }

    public long answer() {
        return machine.answered();
    }

    public long mark(int i) {
        return machine.markOf(i);
    }

    public int markTongue(int i) {
        return machine.tongueOfMark(i);
    }

    public int failure(int i, int what) {
        return machine.factOf(i, what);
    }

    public int under(int i, int k, int what) {
        return machine.factUnder(i, k, what);
    }

    private void addBytes(int four) {
        for (int shift = 24; shift >= 0 && taped < TAPE_MOST; shift -= 8) {
            tape[taped] = (byte) (four >> shift);
            taped++;
        }
    }

    private boolean canFail(int tongue, int what) {
        if (tongue == CODES) {
            return what != 0;
        }
        return what >= 1 && what <= names.inAll();
    }

    private static boolean isTongue(int t) {
        return t >= 0 && t < TONGUES;
    }

    /** VALUES side by side; a read beyond the end tells none, so that no index can throw. */
    private static final class Row {
        private static final int EMPTY = 0;
        private static final int NUMBER = 1;
        private static final int ARRAY = 2;
        private static final int FUNCTION = 3;
        private static final int FAILS = 4;

        private int[] kinds;
        private long[] wholes;
        private double[] reals;
        private int count = 0;

        Row(int room) {
            int size = Math.max(room, 1);
            kinds = new int[size];
            wholes = new long[size];
            reals = new double[size];
        }

        int count() {
            return count;
        }

        int kind(int i) {
            return i >= 0 && i < count ? kinds[i] : EMPTY;
        }

        long whole(int i) {
            return i >= 0 && i < count ? wholes[i] : 0;
        }

        double real(int i) {
            return i >= 0 && i < count ? reals[i] : 0.0;
        }

        int kindOfTop() {
            return kind(count - 1);
        }

        /** Cuts the row, or makes it longer by none. */
        void resize(int size) {
            int to = Math.max(size, 0);
            if (to > kinds.length) {
                int room = Math.max(to, 2 * kinds.length);
                kinds = Arrays.copyOf(kinds, room);
                wholes = Arrays.copyOf(wholes, room);
                reals = Arrays.copyOf(reals, room);
            }
            for (int i = count; i < to; i++) {
                kinds[i] = EMPTY;
                wholes[i] = 0;
                reals[i] = 0.0;
            }
            count = to;
        }

        void drop(int n) {
            resize(count - n);
        }

        void set(int i, int kind, long whole, double real) {
            if (i >= 0 && i < count) {
                kinds[i] = kind;
                wholes[i] = whole;
                reals[i] = real;
            }
        }

        void push(int kind, long whole, double real) {
            resize(count + 1);
            set(count - 1, kind, whole, real);
        }

        void copy(int i, Row from, int j) {
            set(i, from.kind(j), from.whole(j), from.real(j));
        }

        void pushCopy(Row from, int j) {
            push(from.kind(j), from.whole(j), from.real(j));
        }
    }

    /** What the NUMBERS of each TONGUE are, and what signs make of them. */
    private static final class Numbers {
        private static final long HUNDRED_PETA = 100000000000000000L;
        private static final long LEAST_LONG = -9223372036854775808L;
        private static final long MOST_LONG = 9223372036854775807L;

        static long least(int tongue) {
            if (tongue == CODES) {
                return -2147483648L;
            }
            return tongue == VALUES ? -HUNDRED_PETA : LEAST_LONG;
        }

        static long most(int tongue) {
            if (tongue == CODES) {
                return 2147483647L;
            }
            return tongue == VALUES ? HUNDRED_PETA : MOST_LONG;
        }

        private static double twoTo63() {
            return 9223372036854775808.0;
        }

        private static double greatest() {
            return 1.7976931348623157E308;
        }

        /** Whether the TONGUE has this very whole. */
        static boolean has(int tongue, long whole) {
            if (tongue == EXITS) {
                double near = (double) whole;
                return near < twoTo63() && (long) near == whole;
            }
            return whole >= least(tongue) && whole <= most(tongue);
        }

        /** Whether a long is this very double. */
        static boolean isWhole(double real) {
            return real >= -twoTo63() && real < twoTo63() && (double) (long) real == real;
        }

        static boolean isFinite(double real) {
            return real >= -greatest() && real <= greatest();
        }

        /** Whether the sign's outcome lies beyond the TONGUE's wholes; a divisor isn't 0. */
        static boolean traps(int tongue, int sign, long x, long y) {
            if (tongue == THROWS) {
                return false;
            }
            if (sign == '*' && x != 0 && Math.abs(y) > HUNDRED_PETA / Math.abs(x)) {
                return true;
            }
            long z = ofWholes(sign, x, y);
            return z < least(tongue) || z > most(tongue);
        }

        static long ofWholes(int sign, long x, long y) {
            switch (sign) {
                case '+': return x + y;
                case '-': return x - y;
                case '*': return x * y;
                case '/': return y == 0 ? 0 : x / y;
                case '%': return y == 0 ? 0 : x % y;
                default: return 0;
            }
        }

        static double ofReals(int sign, double x, double y) {
            switch (sign) {
                case '+': return x + y;
                case '-': return x - y;
                case '*': return x * y;
                case '/': return y == 0 ? 0.0 : x / y;
                case '%': return y == 0 ? 0.0 : rest(x, y);
                default: return 0.0;
            }
        }

        /** The exact rest: multiples of y by powers of 2 are taken away, each without rounding. */
        static double rest(double x, double y) {
            double left = x < 0 ? -x : x;
            double part = y < 0 ? -y : y;
            if (left < part) {
                return x;
            }
            int doubled = 0;
            while (doubled < 2200 && part <= greatest() / 2 && part * 2 <= left) {
                part = part * 2;
                doubled++;
            }
            for (int i = 0; i <= doubled; i++) {
                if (left >= part) {
                    left = left - part;
                }
                part = part * 0.5;
            }
            return x < 0 ? -left : left;
        }

        static boolean compareWholes(int sign, long x, long y) {
            switch (sign) {
                case '<': return x < y;
                case '>': return x > y;
                case Tokens.AT_MOST: return x <= y;
                case Tokens.AT_LEAST: return x >= y;
                default: return false;
            }
        }

        static boolean compareReals(int sign, double x, double y) {
            switch (sign) {
                case '<': return x < y;
                case '>': return x > y;
                case Tokens.AT_MOST: return x <= y;
                case Tokens.AT_LEAST: return x >= y;
                default: return false;
            }
        }

        /** The bits of a finite double, found by scaling it to between 1 and 2. */
        static long bits(double real) {
            if (real == 0) {
                // only a quotient tells the two zeros apart
                return 1.0 / real < 0 ? LEAST_LONG : 0;
            }
            long sign = real < 0 ? LEAST_LONG : 0;
            double scaled = real < 0 ? -real : real;
            int power = 0;
            for (int i = 0; i < 1100 && scaled >= 2; i++) {
                scaled = scaled * 0.5;
                power++;
            }
            for (int i = 0; i < 1100 && scaled < 1; i++) {
                scaled = scaled * 2;
                power--;
            }
            long digits = (long) (scaled * 4503599627370496.0);
            if (power < -1022) {
                return sign | digits >> (-1022 - power);
            }
            return sign | (long) (power + 1023) << 52 | (digits - (1L << 52));
        }
    }

    /** The NAMES of what fails, by number, and which KIND is UNDER which. */
    private static final class Names {
        private static final String FIRST = "zero index nothing sort size deep trap lost border any machine ";
        private static final int MOST = 51;

        private final long[] packed = new long[MOST + 1];
        private final int[] above = new int[MOST + 1];
        private final int[] keptAbove = new int[MOST + 1];
        private int count = 0;
        private int keptCount = 0;

        Names() {
            long name = 0;
            for (int i = 0; i < FIRST.length(); i++) {
                char c = FIRST.charAt(i);
                if (c == ' ' && count < MOST) {
                    count++;
                    packed[count] = name;
                    above[count] = count <= TRAP ? MACHINE : ANY;
                    name = 0;
                } else {
                    name = name << 8 | c;
                }
            }
            above[ANY] = 0;
        }

        int inAll() {
            return count;
        }

        void keep() {
            keptCount = count;
            System.arraycopy(above, 0, keptAbove, 0, MOST + 1);
        }

        void giveBack() {
            count = keptCount;
            System.arraycopy(keptAbove, 0, above, 0, MOST + 1);
        }

        /** The number of a NAME, a new one if it has none yet; 0 if the house has no room for it. */
        int numberOf(long name) {
            for (int i = 1; i <= count; i++) {
                if (packed[i] == name) {
                    return i;
                }
            }
            if (count >= MOST) {
                return 0;
            }
            count++;
            packed[count] = name;
            above[count] = ANY;
            return count;
        }

        int letterOf(int name, int k) {
            if (name < 1 || name > count || k < 0 || k > 7) {
                return NONE;
            }
            int length = 0;
            for (long rest = packed[name]; rest != 0 && length < 8; rest = rest >>> 8) {
                length++;
            }
            return k < length ? (int) (packed[name] >>> 8 * (length - 1 - k) & 255) : NONE;
        }

        int above(int kind) {
            return kind >= 1 && kind <= count ? above[kind] : 0;
        }

        void setAbove(int kind, int other) {
            if (kind >= 1 && kind <= count) {
                above[kind] = other;
            }
        }

        /** Whether a KIND is the other one or UNDER it. */
        boolean isOrUnder(int kind, int other) {
            int at = kind;
            for (int i = 0; i <= MOST && at != 0; i++) {
                if (at == other) {
                    return true;
                }
                at = above(at);
            }
            return false;
        }
    }

    /** RULES, ENTRIES and DEFAULTS between the TONGUES. */
    private static final class Borders {
        private static final int MOST = 100;

        private final int[] rules = new int[TONGUES * TONGUES];
        private final int[] defaults = new int[TONGUES * TONGUES];
        private final int[] entryBorders = new int[MOST];
        private final int[] entryWhats = new int[MOST];
        private final int[] entryAs = new int[MOST];
        private int entries = 0;

        Borders() {
            Arrays.fill(defaults, BORDER);
        }

        private static int border(int from, int to) {
            return (from & 3) * TONGUES + (to & 3);
        }

        void setRule(int from, int to, int rule) {
            rules[border(from, to)] = rule;
        }

        void setDefault(int from, int to, int as) {
            defaults[border(from, to)] = as;
        }

        boolean setEntry(int from, int to, int what, int as) {
            int place = find(from, to, what);
            if (place < 0) {
                if (entries >= MOST) {
                    return false;
                }
                place = entries;
                entries++;
            }
            entryBorders[place] = border(from, to);
            entryWhats[place] = what;
            entryAs[place] = as;
            return true;
        }

        private int find(int from, int to, int what) {
            int border = border(from, to);
            for (int i = 0; i < entries; i++) {
                if (entryBorders[i] == border && entryWhats[i] == what) {
                    return i;
                }
            }
            return -1;
        }

        /** The ENTRY for what fails, of THROWS for the nearest KIND above it that has one; -1 without. */
        int entryFor(int from, int to, int what, Names names) {
            int found = find(from, to, what);
            if (from != THROWS) {
                return found;
            }
            int kind = what;
            for (int i = 0; i <= Names.MOST && found < 0 && kind != 0; i++) {
                kind = names.above(kind);
                found = find(from, to, kind);
            }
            return found;
        }

        /** What comes of a FAILURE by an ENTRY, or by the DEFAULT for -1. */
        int becomes(int from, int to, int entry) {
            return entry >= 0 && entry < entries ? entryAs[entry] : defaults[border(from, to)];
        }

        /** Turns the VALUE at a place of a row; false, and it stays, if it isn't turned. */
        boolean turn(Row row, int i, int from, int to) {
            if (row.kind(i) != Row.NUMBER || from == to) {
                return true;
            }
            int rule = rules[border(from, to)];
            boolean isReal = from == EXITS;
            long whole = isReal ? (long) row.real(i) : row.whole(i);
            boolean isExact = !isReal || Numbers.isWhole(row.real(i));
            if (rule == 0 && !(isExact && Numbers.has(to, whole))) {
                return false;
            }
            setTurned(row, i, to, rule, whole);
            return true;
        }

        private void setTurned(Row row, int i, int to, int rule, long whole) {
            if (to == EXITS) {
                row.set(i, Row.NUMBER, 0, (double) whole);
            } else if (rule == 1) {
                row.set(i, Row.NUMBER, wrapped(to, whole), 0.0);
            } else {
                long nearest = Math.max(Numbers.least(to), Math.min(Numbers.most(to), whole));
                row.set(i, Row.NUMBER, nearest, 0.0);
            }
        }

        private static long wrapped(int to, long whole) {
            if (to == CODES) {
                return (int) whole;
            }
            return to == VALUES ? whole % Numbers.HUNDRED_PETA : whole;
        }
    }

    /** The TOKENS of a text, one at a time. */
    private static final class Tokens {
        private static final int END = 0;
        private static final int NAME = 1;
        private static final int NUMBER = 2;
        private static final int WRONG = 3;
        private static final int EQUAL = 129;
        private static final int DIFFERENT = 130;
        private static final int AT_MOST = 131;
        private static final int AT_LEAST = 132;
        private static final int KIND = 200;
        private static final int UNDER = 201;
        private static final int FN = 202;
        private static final int LET = 203;
        private static final int IF = 204;
        private static final int ELSE = 205;
        private static final int WHILE = 206;
        private static final int RETURN = 207;
        private static final int MARK = 208;
        private static final int THROW = 209;
        private static final int TRY = 210;
        private static final int CATCH = 211;
        private static final int FINALLY = 212;
        private static final int FAIL = 213;
        private static final int ON = 214;
        private static final int GO = 215;
        private static final int WITH = 216;
        private static final int ENDING = 217;
        private static final int EXIT = 218;
        private static final int OPEN = 219;
        private static final int THEN = 220;
        private static final int CLEAN = 221;
        private static final int DO = 222;
        private static final int NOTHING_WORD = 223;
        private static final int NEW = 224;
        private static final int SIZE_WORD = 225;
        private static final int CELL = 226;
        private static final int TAG = 227;
        private static final int BAD = 228;
        private static final int FIRST_TONGUE = 229;
        private static final int WORD_COUNT = 33;
        private static final String WORDS =
            "kind under fn let if else while return mark throw try catch finally fail on go with end exit open then clean do none new size cell tag bad throws codes values exits ";
        private static final String SIGNS = "(){}[],;.&!=<>+-*/%";

        private final byte[] text;
        private final long[] words = new long[WORD_COUNT];
        private final int[] kinds = new int[TAPE_MOST + 1];
        private final int[] places = new int[TAPE_MOST + 1];
        private final long[] wholes = new long[TAPE_MOST + 1];
        private final double[] reals = new double[TAPE_MOST + 1];
        private int count = 0;
        private int length = 0;
        private int tongue = 0;
        private int at = 0;
        private int now = 0;
        private boolean stopped = false;
        // of the TOKEN at hand; whole is a NAME's letters, too
        private int kind = END;
        private int place = 0;
        private long whole = 0;
        private double real = 0.0;

        Tokens(byte[] text) {
            this.text = text;
            long word = 0;
            int told = 0;
            for (int i = 0; i < WORDS.length(); i++) {
                char c = WORDS.charAt(i);
                if (c == ' ' && told < WORD_COUNT) {
                    words[told] = word;
                    told++;
                    word = 0;
                } else {
                    word = word << 8 | c;
                }
            }
        }

        /** Finds all TOKENS, up to the end or one that is WRONG, and goes to the first. */
        void begin(int ofTongue, int bytes) {
            tongue = ofTongue;
            length = Math.min(bytes, text.length);
            at = 0;
            count = 0;
            kind = NAME;
            while (count <= TAPE_MOST && kind != END && kind != WRONG) {
                readToken();
                kinds[count] = kind;
                places[count] = place;
                wholes[count] = whole;
                reals[count] = real;
                count++;
            }
            stopped = false;
            now = -1;
            next();
        }

        void next() {
            if (stopped) {
                return;
            }
            if (now < count - 1) {
                now++;
            }
            kind = kinds[now];
            place = places[now];
            whole = wholes[now];
            real = reals[now];
        }

        /** No TEXT goes on with this TOKEN: it stays at hand, and fits nowhere, so that every loop of the parser ends. */
        void stop() {
            stopped = true;
            kind = WRONG;
        }

        private void readToken() {
            while (at < length && (byteAt(at) == 32 || byteAt(at) == 10)) {
                at++;
            }
            place = at;
            whole = 0;
            int c = byteAt(at);
            if (c < 0) {
                kind = END;
            } else if (isLetter(c)) {
                readName();
            } else if (isDigit(c)) {
                readNumber();
            } else {
                readSign(c);
            }
        }

        private int byteAt(int i) {
            return i >= 0 && i < length ? text[i] & 255 : -1;
        }

        private static boolean isLetter(int c) {
            return c >= 'a' && c <= 'z';
        }

        private static boolean isDigit(int c) {
            return c >= '0' && c <= '9';
        }

        private void readName() {
            int letters = 0;
            while (at < length && (isLetter(byteAt(at)) || isDigit(byteAt(at)))) {
                whole = whole << 8 | byteAt(at);
                letters++;
                at++;
            }
            kind = letters > 8 ? WRONG : wordOrName();
        }

        private int wordOrName() {
            for (int i = 0; i < WORD_COUNT; i++) {
                if (words[i] == whole) {
                    return KIND + i;
                }
            }
            return NAME;
        }

        private void readNumber() {
            kind = NUMBER;
            if (tongue == EXITS) {
                readReal();
                return;
            }
            long most = Numbers.most(tongue);
            while (at < length && isDigit(byteAt(at))) {
                int digit = byteAt(at) - '0';
                if (whole > (most - digit) / 10) {
                    kind = WRONG;
                    return;
                }
                whole = whole * 10 + digit;
                at++;
            }
        }

        private void readReal() {
            int digits = readDigits(0);
            double divisor = 1.0;
            if (byteAt(at) == '.' && isDigit(byteAt(at + 1))) {
                at++;
                int all = readDigits(digits);
                for (int i = digits; i < all && i < 16; i++) {
                    divisor = divisor * 10;
                }
                digits = all;
            }
            if (digits > 15) {
                kind = WRONG;
            }
            real = (double) whole / divisor;
        }

        private int readDigits(int ahead) {
            int digits = ahead;
            while (at < length && isDigit(byteAt(at))) {
                whole = whole * 10 + (byteAt(at) - '0');
                digits++;
                at++;
            }
            return digits;
        }

        private void readSign(int c) {
            if (SIGNS.indexOf((char) c) < 0) {
                kind = WRONG;
                return;
            }
            kind = c;
            at++;
            if (byteAt(at) != '=') {
                return;
            }
            int longer = c == '=' ? EQUAL : c == '!' ? DIFFERENT : c == '<' ? AT_MOST : c == '>' ? AT_LEAST : 0;
            if (longer != 0) {
                kind = longer;
                at++;
            }
        }
    }

    /** What a text was made into: one row of instructions (op, two details, PLACE) and its functions. */
    private static final class Program {
        private static final int NOP = 0;
        private static final int STEP = 1;
        private static final int PUSH = 2;
        private static final int PUSH_NONE = 3;
        private static final int LOAD = 4;
        private static final int STORE = 5;
        private static final int DROP = 6;
        private static final int SIGN = 7;
        private static final int NEGATE = 8;
        private static final int NEW = 9;
        private static final int LENGTH = 10;
        private static final int CELL_OF = 11;
        private static final int PUT = 12;
        private static final int CALL = 13;
        private static final int CALL_HELD = 14;
        private static final int FUNCTION = 15;
        private static final int TAG = 16;
        private static final int BAD = 17;
        private static final int CELL = 18;
        private static final int JUMP = 19;
        private static final int QUESTION = 20;
        private static final int RETURN = 21;
        private static final int MARK = 22;
        private static final int THROW = 23;
        private static final int FAIL = 24;
        private static final int EXIT = 25;
        private static final int IF_FAILS = 26;
        private static final int IF_WELL = 27;
        private static final int GUARD = 28;
        private static final int UNGUARD = 29;
        private static final int CATCH = 30;
        private static final int FINISH = 31;
        private static final int FINISHED = 32;
        private static final int FUNCTIONS_MOST = 40;
        private static final int WIDTH = 4;

        private int[] code = new int[1024];
        private int length = 0;
        private final Row constants = new Row(32);
        private final long[] names = new long[FUNCTIONS_MOST];
        private final int[] starts = new int[FUNCTIONS_MOST];
        private final int[] parameters = new int[FUNCTIONS_MOST];
        private final int[] variables = new int[FUNCTIONS_MOST];
        private int functions = 0;

        void clear() {
            length = 0;
            functions = 0;
            constants.resize(0);
        }

        int functions() {
            return functions;
        }

        int length() {
            return length;
        }

        /** Adds an instruction, and tells where it stands. */
        int add(int op, int first, int second, int place) {
            int from = length * WIDTH;
            if (from + WIDTH > code.length) {
                code = Arrays.copyOf(code, 2 * code.length);
            }
            code[from] = op;
            code[from + 1] = first;
            code[from + 2] = second;
            code[from + 3] = place;
            length++;
            return length - 1;
        }

        private int part(int i, int k) {
            return i >= 0 && i < length ? code[i * WIDTH + k] : 0;
        }

        int op(int i) {
            return part(i, 0);
        }

        int first(int i) {
            return part(i, 1);
        }

        int second(int i) {
            return part(i, 2);
        }

        int place(int i) {
            return part(i, 3);
        }

        void setOp(int i, int op) {
            if (i >= 0 && i < length) {
                code[i * WIDTH] = op;
            }
        }

        void setFirst(int i, int first) {
            if (i >= 0 && i < length) {
                code[i * WIDTH + 1] = first;
            }
        }

        void setSecond(int i, int second) {
            if (i >= 0 && i < length) {
                code[i * WIDTH + 2] = second;
            }
        }

        int addConstant(int kind, long whole, double real) {
            constants.push(kind, whole, real);
            return constants.count() - 1;
        }

        Row constants() {
            return constants;
        }

        /** A further function, that begins here; one too many isn't kept (the parser has told its FAULT). */
        void addFunction(long name) {
            if (functions < FUNCTIONS_MOST) {
                names[functions] = name;
                starts[functions] = length;
                functions++;
            }
        }

        void setCounts(int function, int ofParameters, int ofVariables) {
            if (function >= 0 && function < functions) {
                parameters[function] = ofParameters;
                variables[function] = ofVariables;
            }
        }

        int find(long name) {
            for (int i = 0; i < functions; i++) {
                if (names[i] == name) {
                    return i;
                }
            }
            return -1;
        }

        int start(int function) {
            return function >= 0 && function < functions ? starts[function] : length;
        }

        int parameters(int function) {
            return function >= 0 && function < functions ? parameters[function] : 0;
        }

        int variables(int function) {
            return function >= 0 && function < functions ? variables[function] : 0;
        }
    }

    /** Reads a text into a Program; of FAULTS the least kind is told, of one kind the first. */
    private static final class Parser {
        private static final int NEST_MOST = 8;
        private static final int ARGUMENTS_MOST = 8;
        private static final int PARAMETERS_MOST = 4;
        private static final int VARIABLES_MOST = 12;
        // more than names of variables have place in a text
        private static final int TABLE = 1000;

        private final Tokens tokens;
        private final Names names;
        private Program program;
        private final int[] faults = new int[4];
        private final long[] variables = new long[TABLE];
        private int variableCount = 0;
        private int counted = 0;
        private int told = 0;
        private int tongue = 0;
        private int depth = 0;
        private int place = 0;

        Parser(byte[] text, Names names, Program draft) {
            tokens = new Tokens(text);
            this.names = names;
            program = draft;
        }

        int faultKind() {
            for (int kind = 1; kind <= 3; kind++) {
                if (faults[kind] >= 0) {
                    return kind;
                }
            }
            return 0;
        }

        int faultPlace() {
            return Math.max(faults[faultKind()], 0);
        }

        void parse(int ofTongue, int bytes, Program into) {
            program = into;
            program.clear();
            tongue = ofTongue;
            depth = 0;
            told = 0;
            Arrays.fill(faults, -1);
            tokens.begin(ofTongue, bytes);
            for (int i = 0; i < TAPE_MOST && tokens.kind != Tokens.END && tokens.kind != Tokens.WRONG; i++) {
                if (took(Tokens.FN)) {
                    function();
                } else if (tongue == THROWS && took(Tokens.KIND)) {
                    kindUnder();
                } else {
                    tokens.stop();
                }
            }
            if (tokens.kind == Tokens.WRONG) {
                faults[1] = tokens.place;
            }
        }

        /** FAULT 2 or 3; FAULT 1 is where the TOKENS are stopped. */
        private void tellFault(int kind, int at) {
            if (faults[kind] < 0 || at < faults[kind]) {
                faults[kind] = at;
            }
        }

        private boolean took(int kind) {
            if (tokens.kind != kind) {
                return false;
            }
            tokens.next();
            return true;
        }

        private void need(int kind) {
            if (tokens.kind == kind) {
                tokens.next();
            } else {
                tokens.stop();
            }
        }

        private void needOpen(int kind) {
            if (depth >= NEST_MOST) {
                tokens.stop();
            }
            need(kind);
            depth++;
        }

        private void needClosed(int kind) {
            need(kind);
            depth--;
        }

        private int add(int op, int first, int second) {
            return program.add(op, first, second, place);
        }

        private int here() {
            return program.length();
        }

        /** Instructions that wait for one target are chained by their first detail. */
        private void aimAll(int chain, int target) {
            int i = chain;
            for (int n = program.length(); n > 0 && i >= 0; n--) {
                int next = program.first(i);
                program.setFirst(i, target);
                i = next;
            }
        }

        private void kindUnder() {
            int kind = nameOfFailing();
            need(Tokens.UNDER);
            int at = tokens.place;
            int other = nameOfFailing();
            if (kind != 0 && other != 0) {
                if (names.isOrUnder(other, kind)) {
                    tellFault(3, at);
                } else {
                    names.setAbove(kind, other);
                }
            }
            need(';');
        }

        private int nameOfFailing() {
            long name = tokens.whole;
            int at = tokens.place;
            need(Tokens.NAME);
            int number = names.numberOf(name);
            if (number == 0) {
                tellFault(2, at);
            }
            return number;
        }

        private void function() {
            long name = tokens.whole;
            int at = tokens.place;
            need(Tokens.NAME);
            told++;
            if (told > Program.FUNCTIONS_MOST) {
                tellFault(2, at);
            }
            if (program.find(name) >= 0) {
                tellFault(3, at);
            }
            program.addFunction(name);
            int number = program.functions() - 1;
            variableCount = 0;
            counted = 0;
            parameters();
            int ofParameters = counted;
            block();
            add(Program.PUSH_NONE, 0, 0);
            add(Program.RETURN, 0, 0);
            program.setCounts(number, ofParameters, variableCount);
        }

        private void parameters() {
            needOpen('(');
            if (tokens.kind != ')') {
                parameter();
                for (int i = 0; i < TAPE_MOST && took(','); i++) {
                    parameter();
                }
            }
            needClosed(')');
        }

        private void parameter() {
            long name = tokens.whole;
            int at = tokens.place;
            need(Tokens.NAME);
            counted++;
            if (counted > PARAMETERS_MOST) {
                tellFault(2, at);
            }
            if (variable(name) >= 0) {
                tellFault(3, at);
            }
            declare(name);
        }

        private int variable(long name) {
            for (int i = 0; i < variableCount; i++) {
                if (variables[i] == name) {
                    return i;
                }
            }
            return -1;
        }

        private int declare(long name) {
            int known = variable(name);
            if (known >= 0 || variableCount >= TABLE) {
                return Math.max(known, 0);
            }
            variables[variableCount] = name;
            variableCount++;
            return variableCount - 1;
        }

        private int variableAt(long name, int at) {
            int known = variable(name);
            if (known < 0) {
                tellFault(3, at);
            }
            return Math.max(known, 0);
        }

        private void block() {
            needOpen('{');
            for (int i = 0; i < TAPE_MOST && tokens.kind != '}' && tokens.kind != Tokens.WRONG; i++) {
                statement();
            }
            needClosed('}');
        }

        private void statement() {
            place = tokens.place;
            add(Program.STEP, 0, 0);
            if (took(Tokens.LET)) {
                let();
            } else if (took(Tokens.IF)) {
                ifElse();
            } else if (took(Tokens.WHILE)) {
                whileTrue();
            } else if (took(Tokens.RETURN)) {
                withExpression(Program.RETURN, 0);
            } else if (took(Tokens.MARK)) {
                withExpression(Program.MARK, 0);
            } else if (tokens.kind == Tokens.NAME) {
                nameFirst();
            } else if (!ownStatement()) {
                withExpression(Program.DROP, 0);
            }
        }

        private boolean ownStatement() {
            if (tongue == THROWS && took(Tokens.THROW)) {
                withExpression(Program.THROW, nameOfFailing());
            } else if (tongue == THROWS && took(Tokens.TRY)) {
                tryCatch();
            } else if (tongue == CODES && took(Tokens.FAIL)) {
                withExpression(Program.FAIL, 0);
            } else if (tongue == CODES && took(Tokens.ON)) {
                onGo();
            } else if (tongue == VALUES && took(Tokens.WITH)) {
                withEnd();
            } else if (tongue == EXITS && took(Tokens.EXIT)) {
                withExpression(Program.EXIT, nameOfFailing());
            } else if (tongue == EXITS && took(Tokens.OPEN)) {
                openThen();
            } else if (tongue == EXITS && took(Tokens.CLEAN)) {
                cleanDo();
            } else {
                return false;
            }
            return true;
        }

        private void withExpression(int op, int first) {
            expression(false);
            need(';');
            add(op, first, 0);
        }

        private void let() {
            long name = tokens.whole;
            int at = tokens.place;
            need(Tokens.NAME);
            if (variable(name) < 0) {
                counted++;
                if (counted > VARIABLES_MOST) {
                    tellFault(2, at);
                }
            }
            int variable = declare(name);
            need('=');
            withExpression(Program.STORE, variable);
        }

        private void nameFirst() {
            long name = tokens.whole;
            int at = tokens.place;
            tokens.next();
            if (tokens.kind == '=') {
                int variable = variableAt(name, at);
                tokens.next();
                withExpression(Program.STORE, variable);
                return;
            }
            if (tokens.kind == '[') {
                int failing = cellParts(variableAt(name, at));
                if (took('=')) {
                    // here all three parts are worked out, whichever FAILS
                    forgetAll(failing);
                    withExpression(Program.PUT, 0);
                    return;
                }
                endOfParts(Program.CELL_OF, 0, 0, failing);
            } else {
                afterName(name, at);
            }
            expression(true);
            need(';');
            add(Program.DROP, 0, 0);
        }

        private void forgetAll(int chain) {
            int i = chain;
            for (int n = program.length(); n > 0 && i >= 0; n--) {
                program.setOp(i, Program.NOP);
                i = program.first(i);
            }
        }

        private void ifElse() {
            int question = question();
            block();
            if (took(Tokens.ELSE)) {
                int jump = add(Program.JUMP, 0, 0);
                program.setFirst(question, here());
                block();
                program.setFirst(jump, here());
            } else {
                program.setFirst(question, here());
            }
        }

        private void whileTrue() {
            int head = here() - 1;
            int question = question();
            block();
            add(Program.JUMP, head, 0);
            program.setFirst(question, here());
        }

        private int question() {
            needOpen('(');
            expression(false);
            needClosed(')');
            return add(Program.QUESTION, 0, 0);
        }

        private void tryCatch() {
            int finish = add(Program.NOP, 0, 0);
            int guard = add(Program.NOP, 0, 0);
            block();
            if (tokens.kind == Tokens.CATCH) {
                catches(guard);
            } else if (tokens.kind != Tokens.FINALLY) {
                tokens.stop();
            }
            if (took(Tokens.FINALLY)) {
                program.setOp(finish, Program.GUARD);
                finishing(finish);
            }
        }

        private void catches(int guard) {
            program.setOp(guard, Program.GUARD);
            program.setSecond(guard, Guards.detail(Guards.CATCH, 0));
            int ends = add(Program.UNGUARD, -1, 0);
            int last = -1;
            for (int i = 0; i < TAPE_MOST && took(Tokens.CATCH); i++) {
                int name = nameOfFailing();
                int variable = secondName();
                int told = add(Program.CATCH, name, -1);
                if (last < 0) {
                    program.setFirst(guard, told);
                } else {
                    program.setSecond(last, told);
                }
                last = told;
                add(Program.STORE, variable, 0);
                block();
                ends = add(Program.JUMP, ends, 0);
            }
            aimAll(ends, here());
        }

        private int secondName() {
            long name = tokens.whole;
            need(Tokens.NAME);
            return declare(name);
        }

        /** Ends a part that its guard finishes, by the B that follows. */
        private void finishing(int guard) {
            add(Program.FINISH, here() + 1, 0);
            program.setFirst(guard, here());
            program.setSecond(guard, Guards.detail(Guards.FINISH, 0));
            block();
            add(Program.FINISHED, here() + 1, 0);
        }

        private void onGo() {
            int guard = add(Program.GUARD, 0, Guards.detail(Guards.ON, 0));
            block();
            int jump = add(Program.UNGUARD, 0, 0);
            program.setFirst(guard, here());
            need(Tokens.GO);
            block();
            program.setFirst(jump, here());
        }

        private void withEnd() {
            int guard = add(Program.GUARD, 0, 0);
            block();
            need(Tokens.ENDING);
            finishing(guard);
        }

        private void openThen() {
            int name = nameOfFailing();
            int variable = secondName();
            int guard = add(Program.GUARD, 0, Guards.detail(Guards.OPEN, name));
            block();
            int jump = add(Program.UNGUARD, 0, 0);
            program.setFirst(guard, here());
            need(Tokens.THEN);
            add(Program.STORE, variable, 0);
            block();
            program.setFirst(jump, here());
        }

        /** The cleaning B stands first and is done last. */
        private void cleanDo() {
            int guard = add(Program.GUARD, 0, Guards.detail(Guards.FINISH, 0));
            int jump = add(Program.JUMP, 0, 0);
            int cleaning = here();
            program.setFirst(guard, cleaning);
            block();
            int finished = add(Program.FINISHED, 0, 0);
            need(Tokens.DO);
            program.setFirst(jump, here());
            block();
            add(Program.FINISH, cleaning, 0);
            program.setFirst(finished, here());
        }

        /** An expression whose first P may have been read already. */
        private void expression(boolean begun) {
            comparison(begun);
            if (tongue == VALUES && tokens.kind == Tokens.ELSE) {
                needOpen(Tokens.ELSE);
                int well = add(Program.IF_WELL, 0, 0);
                expression(false);
                depth--;
                program.setFirst(well, here());
            }
        }

        private void comparison(boolean begun) {
            sum(begun);
            int sign = tokens.kind;
            if (sign == '<' || sign == '>' || sign >= Tokens.EQUAL && sign <= Tokens.AT_LEAST) {
                tokens.next();
                int failing = ifFails(-1, 0);
                sum(false);
                endOfParts(Program.SIGN, sign, 0, ifFails(failing, 1));
            }
        }

        private void sum(boolean begun) {
            product(begun);
            for (int i = 0; i < TAPE_MOST && (tokens.kind == '+' || tokens.kind == '-'); i++) {
                int sign = tokens.kind;
                tokens.next();
                int failing = ifFails(-1, 0);
                product(false);
                endOfParts(Program.SIGN, sign, 0, ifFails(failing, 1));
            }
        }

        private void product(boolean begun) {
            unary(begun);
            for (int i = 0; i < TAPE_MOST && (tokens.kind == '*' || tokens.kind == '/' || tokens.kind == '%'); i++) {
                int sign = tokens.kind;
                tokens.next();
                int failing = ifFails(-1, 0);
                unary(false);
                endOfParts(Program.SIGN, sign, 0, ifFails(failing, 1));
            }
        }

        private void unary(boolean begun) {
            if (begun) {
                return;
            }
            if (tokens.kind == '-') {
                needOpen('-');
                unary(false);
                depth--;
                endOfParts(Program.NEGATE, 0, 0, ifFails(-1, 0));
            } else {
                primary();
            }
        }

        /** In VALUES a part that FAILS jumps over the rest, away from the parts beneath it. */
        private int ifFails(int chain, int beneath) {
            return tongue == VALUES ? add(Program.IF_FAILS, chain, beneath) : chain;
        }

        private void endOfParts(int op, int first, int second, int failing) {
            add(op, first, second);
            aimAll(failing, here());
        }

        private void primary() {
            int kind = tokens.kind;
            if (kind == Tokens.NAME) {
                long name = tokens.whole;
                int at = tokens.place;
                tokens.next();
                afterName(name, at);
            } else if (kind == Tokens.NUMBER) {
                number();
            } else if (took(Tokens.NOTHING_WORD)) {
                add(Program.PUSH_NONE, 0, 0);
            } else if (took(Tokens.NEW)) {
                inBrackets('[', ']');
                endOfParts(Program.NEW, 0, 0, ifFails(-1, 0));
            } else if (took(Tokens.SIZE_WORD)) {
                inBrackets('(', ')');
                endOfParts(Program.LENGTH, 0, 0, ifFails(-1, 0));
            } else if (kind == '(') {
                inBrackets('(', ')');
            } else if (took('&')) {
                functionItself();
            } else if (isTongueWord()) {
                int to = kind - Tokens.FIRST_TONGUE;
                tokens.next();
                need('.');
                long name = tokens.whole;
                need(Tokens.NAME);
                arguments(Program.CALL, to, name, -1);
            } else {
                ownPrimary();
            }
        }

        private void ownPrimary() {
            if (tongue == CODES && took(Tokens.CELL)) {
                add(Program.CELL, 0, 0);
            } else if (tongue == VALUES && took(Tokens.TAG)) {
                inBrackets('(', ')');
                add(Program.TAG, 0, 0);
            } else if (tongue == VALUES && took(Tokens.BAD)) {
                int name = nameOfFailing();
                inBrackets('(', ')');
                endOfParts(Program.BAD, name, 0, ifFails(-1, 0));
            } else {
                tokens.stop();
            }
        }

        private void number() {
            boolean isReal = tongue == EXITS;
            long whole = isReal ? 0 : tokens.whole;
            double real = isReal ? tokens.real : 0.0;
            add(Program.PUSH, program.addConstant(Row.NUMBER, whole, real), 0);
            tokens.next();
        }

        private void inBrackets(int open, int close) {
            needOpen(open);
            expression(false);
            needClosed(close);
        }

        private boolean isTongueWord() {
            return tokens.kind >= Tokens.FIRST_TONGUE && tokens.kind < Tokens.FIRST_TONGUE + TONGUES;
        }

        private void functionItself() {
            int to = tongue;
            if (isTongueWord()) {
                to = tokens.kind - Tokens.FIRST_TONGUE;
                tokens.next();
                need('.');
            }
            long name = tokens.whole;
            need(Tokens.NAME);
            add(Program.FUNCTION, to, program.addConstant(Row.EMPTY, name, 0.0));
        }

        private void afterName(long name, int at) {
            if (tokens.kind == '(') {
                arguments(Program.CALL, tongue, name, -1);
                return;
            }
            int variable = variableAt(name, at);
            if (tokens.kind == '[') {
                endOfParts(Program.CELL_OF, 0, 0, cellParts(variable));
                return;
            }
            add(Program.LOAD, variable, 0);
            if (took('!')) {
                arguments(Program.CALL_HELD, 0, 0, ifFails(-1, 0));
            }
        }

        private int cellParts(int variable) {
            add(Program.LOAD, variable, 0);
            int failing = ifFails(-1, 0);
            inBrackets('[', ']');
            return ifFails(failing, 1);
        }

        private void arguments(int op, int to, long name, int chain) {
            int beneath = op == Program.CALL_HELD ? 1 : 0;
            int failing = chain;
            int count = 0;
            needOpen('(');
            boolean more = tokens.kind != ')';
            for (int i = 0; i < TAPE_MOST && more; i++) {
                if (count >= ARGUMENTS_MOST) {
                    tellFault(2, tokens.place);
                }
                expression(false);
                failing = ifFails(failing, beneath + count);
                count++;
                more = took(',');
            }
            needClosed(')');
            int constant = program.addConstant(Row.EMPTY, name, 0.0);
            endOfParts(op, count * TONGUES + to, constant, failing);
        }
    }

    /** The FAILURES of a run. */
    private static final class Failures {
        private static final int FACTS = 9;
        private static final int TONGUE = 0;
        private static final int WHAT = 1;
        private static final int PLACE = 2;
        private static final int HOW = 3;
        private static final int COUNT_UNDER = 4;
        private static final int VALUE = 5;
        private static final int FUNCTION = 6;
        private static final int FROM = 7;
        private static final int FIRST_UNDER = 8;

        private int[] facts = new int[32 * FACTS];
        private int count = 0;
        private final Row values = new Row(32);
        private int[] lying = new int[64];
        private int lyingCount = 0;

        void clear() {
            count = 0;
            lyingCount = 0;
            values.resize(0);
        }

        int add(int tongue, int what, int place, int how, int function, int from) {
            int at = count * FACTS;
            if (at + FACTS > facts.length) {
                facts = Arrays.copyOf(facts, 2 * facts.length);
            }
            facts[at + TONGUE] = tongue;
            facts[at + WHAT] = what;
            facts[at + PLACE] = place;
            facts[at + HOW] = how;
            facts[at + COUNT_UNDER] = 0;
            facts[at + VALUE] = Row.EMPTY;
            facts[at + FUNCTION] = function;
            facts[at + FROM] = from;
            facts[at + FIRST_UNDER] = -1;
            count++;
            values.resize(count);
            return count - 1;
        }

        int fact(int f, int what) {
            if (f < 0 || f >= count || what < 0 || what >= FACTS) {
                return NONE;
            }
            return what == VALUE ? values.kind(f) : facts[f * FACTS + what];
        }

        Row values() {
            return values;
        }

        void putUnder(int f, int lower) {
            if (f < 0 || f >= count || lower < 0 || lower == f) {
                return;
            }
            int at = 2 * lyingCount;
            if (at + 2 > lying.length) {
                lying = Arrays.copyOf(lying, 2 * lying.length);
            }
            lying[at] = lower;
            lying[at + 1] = facts[f * FACTS + FIRST_UNDER];
            facts[f * FACTS + FIRST_UNDER] = lyingCount;
            facts[f * FACTS + COUNT_UNDER]++;
            lyingCount++;
        }

        /** What a FAILURE came from, after so many steps back; -1 if there is none. */
        int source(int f, int steps) {
            int at = steps < 0 ? -1 : f;
            for (int i = 0; i < steps && at >= 0; i++) {
                at = fact(at, FROM);
            }
            return at;
        }

        /** The k-th that lies under a FAILURE; -1 if there is none. */
        int lower(int f, int k) {
            int node = k < 0 ? -1 : fact(f, FIRST_UNDER);
            for (int i = 0; i < k && node >= 0 && node < lyingCount; i++) {
                node = lying[2 * node + 1];
            }
            return node >= 0 && node < lyingCount ? lying[2 * node] : -1;
        }
    }

    /** The FRAMES that stand open; the questions are of the innermost one. */
    private static final class Frames {
        private static final int MOST = 24;

        private final int[] tongues = new int[MOST];
        private final int[] functions = new int[MOST];
        private final int[] bases = new int[MOST];
        private final int[] floors = new int[MOST];
        private final int[] tops = new int[MOST];
        private final int[] calledAt = new int[MOST];
        private final int[] guardBases = new int[MOST];
        private int count = 0;

        void clear() {
            count = 0;
        }

        int count() {
            return count;
        }

        boolean isFull() {
            return count >= MOST;
        }

        void push(int tongue, int function, int base, int floor, int top, int at, int guards) {
            if (count < MOST) {
                tongues[count] = tongue;
                functions[count] = function;
                bases[count] = base;
                floors[count] = floor;
                tops[count] = top;
                calledAt[count] = at;
                guardBases[count] = guards;
                count++;
            }
        }

        void pop() {
            if (count > 0) {
                count--;
            }
        }

        private int of(int[] row) {
            return count > 0 && count <= row.length ? row[count - 1] : 0;
        }

        int tongue() {
            return of(tongues);
        }

        int function() {
            return of(functions);
        }

        int base() {
            return of(bases);
        }

        int floor() {
            return of(floors);
        }

        int top() {
            return of(tops);
        }

        int calledAt() {
            return of(calledAt);
        }

        int guardBase() {
            return of(guardBases);
        }

        /** Where the guards begin of the functions that called one another without a border up to here. */
        int guardBaseOfPart() {
            int first = count - 1;
            while (first > 0 && tongues[first - 1] == tongues[first]) {
                first--;
            }
            return first >= 0 ? guardBases[first] : 0;
        }
    }

    /** The guarded parts that stand open, over all FRAMES; the questions are of the innermost one. */
    private static final class Guards {
        private static final int CATCH = 1;
        private static final int ON = 2;
        private static final int OPEN = 3;
        private static final int FINISH = 4;
        private static final int FINISHING = 5;

        private static final int NOTHING_UNDER_WAY = 0;
        private static final int ANSWER_UNDER_WAY = 1;
        private static final int FAILURE_UNDER_WAY = 2;

        // a text nests 8 deep, two guards each, in 24 FRAMES
        private static final int MOST = 400;

        private final int[] kinds = new int[MOST];
        private final int[] targets = new int[MOST];
        private final int[] names = new int[MOST];
        private final int[] underWay = new int[MOST];
        private final int[] failures = new int[MOST];
        private final Row answers = new Row(16);
        private int count = 0;

        static int detail(int kind, int name) {
            return kind * 64 + name;
        }

        void clear() {
            count = 0;
            answers.resize(0);
        }

        int count() {
            return count;
        }

        void push(int detail, int target) {
            if (count < MOST) {
                kinds[count] = detail / 64;
                names[count] = detail % 64;
                targets[count] = target;
                underWay[count] = NOTHING_UNDER_WAY;
                failures[count] = -1;
                count++;
                answers.resize(count);
            }
        }

        void pop() {
            if (count > 0) {
                count--;
                answers.resize(count);
            }
        }

        private int of(int[] row) {
            return count > 0 && count <= row.length ? row[count - 1] : 0;
        }

        int kind() {
            return of(kinds);
        }

        int target() {
            return of(targets);
        }

        int name() {
            return of(names);
        }

        int underWay() {
            return of(underWay);
        }

        boolean hasOpen(int name, int from) {
            for (int i = Math.max(from, 0); i < count; i++) {
                if (kinds[i] == OPEN && names[i] == name) {
                    return true;
                }
            }
            return false;
        }

        /** The finishing B begins, with what is under way behind it. */
        void finish(int what, int failing) {
            if (count > 0) {
                kinds[count - 1] = FINISHING;
                underWay[count - 1] = what;
                failures[count - 1] = failing;
            }
        }

        void finishAnswer(Row row, int i) {
            finish(ANSWER_UNDER_WAY, -1);
            answers.copy(count - 1, row, i);
        }

        Row answers() {
            return answers;
        }

        /** The FAILURE under way behind a finishing B, be it an answer that FAILS; -1 without. */
        int failureUnderWay() {
            if (underWay() == ANSWER_UNDER_WAY && answers.kindOfTop() == Row.FAILS) {
                return (int) answers.whole(count - 1);
            }
            return underWay() == FAILURE_UNDER_WAY ? of(failures) : -1;
        }
    }

    /** Runs functions, one instruction after the other, and keeps what is told of the latest run. */
    private static final class Machine {
        private static final int STEPS_OF_RUN = 5000;
        private static final int STEPS_OF_LIFE = 80000;
        private static final int CELLS_MOST = 20000;
        private static final int LENGTH_MOST = 400;
        private static final int MARKS_MOST = 200;
        // far above the instructions between 5,000 STEPS
        private static final int TURNS_MOST = 20000000;

        private static final int OUTCOME = 0;
        private static final int ANSWER = 1;
        private static final int STEPS = 2;
        private static final int MARKS = 3;
        private static final int DROPPED = 4;
        private static final int PASSED = 5;
        private static final int TURNED = 6;
        private static final int FRAMES = 7;
        private static final int LIFE = 8;
        private static final int CELL = 9;
        private static final int TOLD = 10;

        private static final int GOING = 0;
        private static final int CARRIED = 1;
        private static final int CALL_FAILED = 2;
        private static final int LEFT = 3;
        private static final int ENDED = 4;

        private final Program[] programs;
        private final Names names;
        private final Borders borders;
        private final Row stack = new Row(64);
        private final Row heap = new Row(64);
        private final Row marks = new Row(16);
        private final Failures failures = new Failures();
        private final Frames frames = new Frames();
        private final Guards guards = new Guards();
        private final int[] tally = new int[TOLD];
        private Program program;
        private int at = 0;
        private int pc = 0;
        private int state = ENDED;
        private int carried = -1;
        private int cameOut = -1;
        private long answer = 0;

        Machine(Program[] programs, Names names, Borders borders, Program first) {
            this.programs = programs;
            this.names = names;
            this.borders = borders;
            program = first;
        }

        int told(int what) {
            return what >= 0 && what < TOLD ? tally[what] : NONE;
        }

        long answered() {
            return answer;
        }

        long markOf(int i) {
            // a MARK's kind is its TONGUE
            return marks.kind(i) == EXITS ? Numbers.bits(marks.real(i)) : marks.whole(i);
        }

        int tongueOfMark(int i) {
            return i >= 0 && i < marks.count() ? marks.kind(i) : NONE;
        }

        int factOf(int i, int what) {
            return what > Failures.FUNCTION ? NONE : failures.fact(failures.source(cameOut, i), what);
        }

        int factUnder(int i, int k, int what) {
            int f = failures.lower(failures.source(cameOut, i), k);
            return what > Failures.FUNCTION ? NONE : failures.fact(f, what);
        }

        int run(int tongue, int function, long argument) {
            clear();
            pushNumber(tongue, argument);
            enter(tongue, function, 1, 0);
            for (int i = 0; i < TURNS_MOST && state != ENDED; i++) {
                if (state == CARRIED) {
                    carryOn();
                } else if (state == CALL_FAILED) {
                    goOnBehindCall();
                } else if (state == LEFT) {
                    leaveFunction();
                } else if (program.op(pc) < Program.JUMP) {
                    at = pc;
                    pc++;
                    workOut();
                } else {
                    at = pc;
                    pc++;
                    goElsewhere();
                }
            }
            return tally[OUTCOME];
        }

        private void clear() {
            for (int i = 0; i < LIFE; i++) {
                tally[i] = 0;
            }
            stack.resize(0);
            heap.resize(0);
            marks.resize(0);
            failures.clear();
            frames.clear();
            guards.clear();
            state = GOING;
            cameOut = -1;
            answer = 0;
        }

        private void end(int outcome) {
            tally[OUTCOME] = outcome;
            state = ENDED;
        }

        /** Counts a STEP; false if the run is SPENT. */
        private boolean step() {
            if (tally[STEPS] >= STEPS_OF_RUN || tally[LIFE] >= STEPS_OF_LIFE) {
                end(2);
                return false;
            }
            tally[STEPS]++;
            tally[LIFE]++;
            return true;
        }

        private void pushNumber(int tongue, long number) {
            if (tongue == EXITS) {
                stack.push(Row.NUMBER, 0, (double) number);
            } else {
                stack.push(Row.NUMBER, number, 0.0);
            }
        }

        private void workOut() {
            int first = program.first(at);
            int second = program.second(at);
            switch (program.op(at)) {
                case Program.STEP: step(); break;
                case Program.PUSH: stack.pushCopy(program.constants(), first); break;
                case Program.PUSH_NONE: stack.push(Row.EMPTY, 0, 0.0); break;
                case Program.LOAD: stack.pushCopy(stack, frames.base() + first); break;
                case Program.STORE: store(first); break;
                case Program.DROP: dropValue(); break;
                case Program.SIGN: sign(first); break;
                case Program.NEGATE: negate(); break;
                case Program.NEW: newArray(); break;
                case Program.LENGTH: lengthOfArray(); break;
                case Program.CELL_OF: cellOfArray(); break;
                case Program.PUT: putIntoArray(); break;
                case Program.CALL: callNamed(first, second); break;
                case Program.CALL_HELD: callHeld(first / TONGUES); break;
                case Program.FUNCTION: functionItself(first, second); break;
                case Program.TAG: tagOfTop(); break;
                case Program.BAD: failsWithTop(first); break;
                case Program.CELL: pushNumber(CODES, tally[CELL]); break;
                default: break;
            }
        }

        private void goElsewhere() {
            int first = program.first(at);
            int second = program.second(at);
            switch (program.op(at)) {
                case Program.JUMP: pc = first; break;
                case Program.QUESTION: question(first); break;
                case Program.RETURN: state = LEFT; break;
                case Program.MARK: keepMark(); break;
                case Program.THROW: failsWithTop(first); break;
                case Program.FAIL: failWithCode(); break;
                case Program.EXIT: exitTo(first); break;
                case Program.IF_FAILS: jumpIfFails(first, second); break;
                case Program.IF_WELL: jumpIfWell(first); break;
                case Program.GUARD: guards.push(second, first); break;
                case Program.UNGUARD: guards.pop(); pc = first; break;
                case Program.FINISH: guards.finish(Guards.NOTHING_UNDER_WAY, -1); pc = first; break;
                case Program.FINISHED: finished(first); break;
                default: break;
            }
        }

        private int top() {
            return stack.count() - 1;
        }

        private void store(int variable) {
            stack.copy(frames.base() + variable, stack, top());
            stack.drop(1);
        }

        private void dropValue() {
            if (stack.kindOfTop() == Row.FAILS) {
                tally[DROPPED]++;
            }
            stack.drop(1);
        }

        /** What fails comes in place of the topmost parts. */
        private void fails(int what, int parts) {
            stack.drop(parts);
            if (step()) {
                give(failures.add(frames.tongue(), what, program.place(at), 0, frames.function(), -1));
            }
        }

        /** In VALUES what fails at a statement itself leaves the function, as its answer. */
        private void leaveIfGoing() {
            if (state == GOING) {
                state = LEFT;
            }
        }

        private void failsWithTop(int what) {
            if (!step()) {
                return;
            }
            int f = failures.add(frames.tongue(), what, program.place(at), 0, frames.function(), -1);
            failures.values().copy(f, stack, top());
            stack.drop(1);
            give(f);
        }

        /** A FAILURE has come up in the function at hand. */
        private void give(int f) {
            int tongue = frames.tongue();
            if (tongue == VALUES) {
                stack.push(Row.FAILS, f, 0.0);
                return;
            }
            if (tongue == CODES) {
                tally[CELL] = failures.fact(f, Failures.WHAT);
            }
            carried = f;
            state = CARRIED;
        }

        private void failWithCode() {
            if (stack.kindOfTop() != Row.NUMBER) {
                fails(SORT, 1);
                return;
            }
            int code = (int) stack.whole(top());
            if (code == 0) {
                stack.drop(1);
            } else {
                fails(code, 1);
            }
        }

        private void exitTo(int name) {
            if (guards.hasOpen(name, frames.guardBaseOfPart())) {
                failsWithTop(name);
            } else {
                fails(LOST, 1);
            }
        }

        private void carryOn() {
            state = GOING;
            if (!isHeld(carried)) {
                outOfFunction(carried);
            }
        }

        /** Whether a guard of the function at hand takes a FAILURE, or a finishing B comes first. */
        private boolean isHeld(int f) {
            for (int i = guards.count(); i > frames.guardBase(); i--) {
                int kind = guards.kind();
                if (kind == Guards.FINISH) {
                    guards.finish(Guards.FAILURE_UNDER_WAY, f);
                    stack.resize(frames.floor());
                    pc = guards.target();
                    return true;
                }
                if (kind == Guards.FINISHING) {
                    failures.putUnder(f, guards.failureUnderWay());
                }
                int target = targetFor(kind, failures.fact(f, Failures.WHAT));
                guards.pop();
                if (target >= 0) {
                    stack.resize(frames.floor());
                    if (kind != Guards.ON) {
                        stack.pushCopy(failures.values(), f);
                    }
                    pc = target;
                    return true;
                }
            }
            return false;
        }

        /** Where the innermost guard goes on with what fails; -1 if it lets it by. */
        private int targetFor(int kind, int what) {
            if (kind == Guards.CATCH) {
                return catchFor(guards.target(), what);
            }
            if (kind == Guards.ON || kind == Guards.OPEN && guards.name() == what) {
                return guards.target();
            }
            return -1;
        }

        private int catchFor(int first, int what) {
            int told = first;
            for (int n = program.length(); n > 0 && told >= 0; n--) {
                if (names.isOrUnder(what, program.first(told))) {
                    return told + 1;
                }
                told = program.second(told);
            }
            return -1;
        }

        private void outOfFunction(int f) {
            if (frames.count() <= 1) {
                cameOut = f;
                end(1);
                return;
            }
            int from = frames.tongue();
            stack.resize(frames.top());
            backToCaller();
            if (from != frames.tongue()) {
                turnFailure(f);
            } else {
                carried = f;
                state = from == CODES ? CALL_FAILED : CARRIED;
            }
        }

        private void backToCaller() {
            at = frames.calledAt();
            pc = at + 1;
            frames.pop();
            program = programs[frames.tongue() & 3];
        }

        private void turnFailure(int f) {
            if (!step()) {
                return;
            }
            tally[TURNED]++;
            int from = failures.fact(f, Failures.TONGUE);
            int to = frames.tongue();
            int entry = borders.entryFor(from, to, failures.fact(f, Failures.WHAT), names);
            int as = borders.becomes(from, to, entry);
            int g = failures.add(to, as, program.place(at), entry >= 0 ? 1 : 2, frames.function(), f);
            Row values = failures.values();
            values.copy(g, values, f);
            if (!borders.turn(values, g, from, to)) {
                values.set(g, Row.EMPTY, 0, 0.0);
            }
            give(g);
            if (to == CODES) {
                state = CALL_FAILED;
            }
        }

        /** In CODES a call that fails leaves none in its place, if no on is there. */
        private void goOnBehindCall() {
            state = GOING;
            tally[CELL] = failures.fact(carried, Failures.WHAT);
            if (!isHeld(carried)) {
                stack.push(Row.EMPTY, 0, 0.0);
            }
        }

        /** The function at hand is left with the topmost VALUE as its answer. */
        private void leaveFunction() {
            state = GOING;
            for (int i = guards.count(); i > frames.guardBase(); i--) {
                if (guards.kind() == Guards.FINISH) {
                    guards.finishAnswer(stack, top());
                    stack.resize(frames.floor());
                    pc = guards.target();
                    return;
                }
                if (guards.kind() == Guards.FINISHING && stack.kindOfTop() == Row.FAILS) {
                    failures.putUnder((int) stack.whole(top()), guards.failureUnderWay());
                }
                guards.pop();
            }
            if (frames.count() > 1) {
                giveAnswer();
            } else {
                endWithAnswer();
            }
        }

        private void giveAnswer() {
            int from = frames.tongue();
            int to = frames.top();
            stack.copy(to, stack, top());
            stack.resize(to + 1);
            backToCaller();
            if (from == frames.tongue()) {
                return;
            }
            if (stack.kindOfTop() == Row.FAILS) {
                int f = (int) stack.whole(top());
                stack.drop(1);
                turnFailure(f);
            } else if (!borders.turn(stack, top(), from, frames.tongue())) {
                fails(BORDER, 1);
            }
        }

        private void endWithAnswer() {
            int kind = stack.kindOfTop();
            long whole = stack.whole(top());
            if (kind == Row.FAILS) {
                cameOut = (int) whole;
                end(1);
                return;
            }
            tally[ANSWER] = kind;
            if (kind == Row.ARRAY) {
                answer = lengthAt(whole);
            } else if (kind == Row.NUMBER && frames.tongue() == EXITS) {
                answer = Numbers.bits(stack.real(top()));
            } else {
                answer = whole;
            }
            end(0);
        }

        private void finished(int after) {
            int what = guards.underWay();
            if (what == Guards.ANSWER_UNDER_WAY) {
                stack.pushCopy(guards.answers(), guards.count() - 1);
                state = LEFT;
            } else if (what == Guards.FAILURE_UNDER_WAY) {
                carried = guards.failureUnderWay();
                state = CARRIED;
            } else {
                pc = after;
            }
            guards.pop();
        }

        private void jumpIfFails(int target, int beneath) {
            if (stack.kindOfTop() == Row.FAILS) {
                stack.copy(top() - beneath, stack, top());
                stack.drop(beneath);
                pc = target;
            }
        }

        private void jumpIfWell(int target) {
            if (stack.kindOfTop() == Row.FAILS) {
                stack.drop(1);
            } else {
                pc = target;
            }
        }

        private void tagOfTop() {
            int f = stack.kindOfTop() == Row.FAILS ? (int) stack.whole(top()) : -1;
            stack.drop(1);
            pushNumber(VALUES, Math.max(failures.fact(f, Failures.WHAT), 0));
        }

        private void question(int otherwise) {
            int kind = stack.kindOfTop();
            if (kind == Row.FAILS) {
                state = LEFT;
            } else if (kind != Row.NUMBER) {
                fails(SORT, 1);
                leaveIfGoing();
            } else {
                if (stack.whole(top()) == 0 && stack.real(top()) == 0) {
                    pc = otherwise;
                }
                stack.drop(1);
            }
        }

        private void keepMark() {
            int kind = stack.kindOfTop();
            if (kind == Row.FAILS) {
                state = LEFT;
            } else if (kind != Row.NUMBER) {
                fails(SORT, 1);
                leaveIfGoing();
            } else {
                tally[MARKS]++;
                if (marks.count() < MARKS_MOST) {
                    marks.push(frames.tongue(), stack.whole(top()), stack.real(top()));
                }
                stack.drop(1);
            }
        }

        private void sign(int sign) {
            if (!step()) {
                return;
            }
            int left = top() - 1;
            if (sign == Tokens.EQUAL || sign == Tokens.DIFFERENT) {
                replaceParts(2, areSame(left, left + 1) == (sign == Tokens.EQUAL) ? 1 : 0);
                return;
            }
            if (stack.kind(left) != Row.NUMBER || stack.kind(left + 1) != Row.NUMBER) {
                fails(SORT, 2);
                return;
            }
            boolean compares = sign == '<' || sign == '>' || sign == Tokens.AT_MOST || sign == Tokens.AT_LEAST;
            if (compares) {
                replaceParts(2, isTrue(sign, left) ? 1 : 0);
                return;
            }
            int what = frames.tongue() == EXITS ? reckonReals(sign, left) : reckonWholes(sign, left);
            if (what != 0) {
                fails(what, 2);
            } else {
                stack.drop(1);
            }
        }

        private void replaceParts(int parts, int number) {
            stack.drop(parts);
            pushNumber(frames.tongue(), number);
        }

        private boolean areSame(int i, int j) {
            return stack.kind(i) == stack.kind(j) && stack.whole(i) == stack.whole(j) && stack.real(i) == stack.real(j);
        }

        private boolean isTrue(int sign, int left) {
            if (frames.tongue() == EXITS) {
                return Numbers.compareReals(sign, stack.real(left), stack.real(left + 1));
            }
            return Numbers.compareWholes(sign, stack.whole(left), stack.whole(left + 1));
        }

        /** Puts the outcome of a sign in the left part's place; what fails, or 0. */
        private int reckonWholes(int sign, int left) {
            long x = stack.whole(left);
            long y = stack.whole(left + 1);
            if (y == 0 && (sign == '/' || sign == '%')) {
                return ZERO;
            }
            if (Numbers.traps(frames.tongue(), sign, x, y)) {
                return TRAP;
            }
            stack.set(left, Row.NUMBER, Numbers.ofWholes(sign, x, y), 0.0);
            return 0;
        }

        private int reckonReals(int sign, int left) {
            double y = stack.real(left + 1);
            if (y == 0 && (sign == '/' || sign == '%')) {
                return ZERO;
            }
            double z = Numbers.ofReals(sign, stack.real(left), y);
            if (!Numbers.isFinite(z)) {
                return TRAP;
            }
            stack.set(left, Row.NUMBER, 0, z);
            return 0;
        }

        private void negate() {
            if (!step()) {
                return;
            }
            if (stack.kindOfTop() != Row.NUMBER) {
                fails(SORT, 1);
                return;
            }
            long whole = stack.whole(top());
            if (frames.tongue() == EXITS) {
                stack.set(top(), Row.NUMBER, 0, -stack.real(top()));
            } else if (Numbers.traps(frames.tongue(), '-', 0, whole)) {
                fails(TRAP, 1);
            } else {
                stack.set(top(), Row.NUMBER, -whole, 0.0);
            }
        }

        /** A NUMBER as a whole one from 0 to 400; -1 if it is none such. */
        private int smallWhole(int i) {
            if (frames.tongue() == EXITS) {
                double real = stack.real(i);
                return real >= 0 && real <= LENGTH_MOST && (double) (int) real == real ? (int) real : -1;
            }
            long whole = stack.whole(i);
            return whole >= 0 && whole <= LENGTH_MOST ? (int) whole : -1;
        }

        private void newArray() {
            if (!step()) {
                return;
            }
            if (stack.kindOfTop() != Row.NUMBER) {
                fails(SORT, 1);
                return;
            }
            int length = smallWhole(top());
            int header = heap.count();
            if (length < 0 || header + length + 1 > CELLS_MOST) {
                fails(SIZE, 1);
                return;
            }
            heap.push(Row.EMPTY, (long) length * TONGUES + frames.tongue(), 0.0);
            heap.resize(header + 1 + length);
            stack.set(top(), Row.ARRAY, header, 0.0);
        }

        private int lengthAt(long header) {
            return (int) (heap.whole((int) header) / TONGUES);
        }

        private int tongueOfArray(int i) {
            return (int) (heap.whole((int) stack.whole(i)) % TONGUES);
        }

        private void lengthOfArray() {
            int kind = stack.kindOfTop();
            if (kind == Row.ARRAY) {
                replaceParts(1, lengthAt(stack.whole(top())));
            } else {
                fails(kind == Row.EMPTY ? NOTHING : SORT, 1);
            }
        }

        /** What fails as a part is asked to be an array; 0 if it is one. */
        private int whatFailsAsArray(int array) {
            if (stack.kind(array) == Row.ARRAY) {
                return 0;
            }
            return stack.kind(array) == Row.EMPTY ? NOTHING : SORT;
        }

        /** What fails as a part is asked to be the index of a cell that the array has; 0 if it is one. */
        private int whatFailsAsIndex(int array, int index) {
            if (stack.kind(index) != Row.NUMBER) {
                return SORT;
            }
            int i = smallWhole(index);
            return i < 0 || i >= lengthAt(stack.whole(array)) ? INDEX : 0;
        }

        private int cellAt(int array, int index) {
            return (int) stack.whole(array) + 1 + smallWhole(index);
        }

        private void cellOfArray() {
            int array = top() - 1;
            int what = whatFailsAsArray(array);
            if (what == 0) {
                what = whatFailsAsIndex(array, array + 1);
            }
            if (what != 0) {
                fails(what, 2);
                return;
            }
            int from = tongueOfArray(array);
            if (from != frames.tongue() && !step()) {
                return;
            }
            stack.copy(array, heap, cellAt(array, array + 1));
            stack.drop(1);
            if (!borders.turn(stack, array, from, frames.tongue())) {
                fails(SORT, 1);
            }
        }

        private void putIntoArray() {
            int array = top() - 2;
            int asked = array;
            int what = whatFailsAsArray(array);
            if (what == 0) {
                asked = array + 1;
                what = whatFailsAsIndex(array, asked);
            }
            if (what == 0) {
                asked = array + 2;
                what = borders.turn(stack, asked, frames.tongue(), tongueOfArray(array)) ? 0 : SORT;
            }
            if (stack.kind(asked) == Row.FAILS) {
                // a part that FAILS is the answer itself, but only once those ahead of it were asked and found well
                stack.resize(asked + 1);
                state = LEFT;
            } else if (what != 0) {
                fails(what, 3);
                leaveIfGoing();
            } else {
                heap.copy(cellAt(array, array + 1), stack, asked);
                stack.drop(3);
            }
        }

        private void functionItself(int tongue, int constant) {
            int number = programs[tongue & 3].find(program.constants().whole(constant));
            if (number < 0) {
                fails(NOTHING, 0);
            } else {
                stack.push(Row.FUNCTION, 64L * tongue + number, 0.0);
            }
        }

        private void callNamed(int detail, int constant) {
            if (!step()) {
                return;
            }
            int count = detail / TONGUES;
            int to = detail % TONGUES;
            int number = programs[to & 3].find(program.constants().whole(constant));
            int what = number < 0 ? NOTHING : whatFailsGoing(to, count);
            if (what != 0) {
                fails(what, count);
            } else if (state == GOING) {
                enter(to, number, count, 0);
            }
        }

        private void callHeld(int count) {
            if (!step()) {
                return;
            }
            int held = top() - count;
            int kind = stack.kind(held);
            int to = (int) (stack.whole(held) / 64) & 3;
            int what = kind == Row.EMPTY ? NOTHING : kind != Row.FUNCTION ? SORT : whatFailsGoing(to, count);
            if (what != 0) {
                fails(what, count + 1);
            } else if (state == GOING) {
                enter(to, (int) (stack.whole(held) % 64), count, 1);
            }
        }

        /** Turns the arguments of a call, if they go over a border; what fails, or 0. */
        private int whatFailsGoing(int to, int count) {
            int from = frames.tongue();
            for (int i = top() - count + 1; i <= top() && from != to; i++) {
                if (!step()) {
                    return 0;
                }
                if (!borders.turn(stack, i, from, to)) {
                    return BORDER;
                }
            }
            if (frames.isFull()) {
                return DEEP;
            }
            if (from != to) {
                tally[PASSED]++;
            }
            return 0;
        }

        private void enter(int tongue, int function, int count, int beneath) {
            program = programs[tongue & 3];
            int base = stack.count() - count;
            int floor = base + program.variables(function);
            stack.resize(base + Math.min(count, program.parameters(function)));
            stack.resize(floor);
            frames.push(tongue, function, base, floor, base - beneath, at, guards.count());
            pc = program.start(function);
            tally[FRAMES] = Math.max(tally[FRAMES], frames.count());
        }
    }
}
