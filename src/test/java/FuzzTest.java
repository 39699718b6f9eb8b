import java.util.Random;

/** Holds FourTongues against the Model, on texts and calls drawn with fixed seeds. */
public final class FuzzTest {
    private static final String[] FUNCTIONS = {"f", "g", "h", "k"};
    private static final String[] VARIABLES = {"a", "b", "c", "d"};
    private static final String[] NAMES = {"zero", "index", "nothing", "sort", "deep", "trap", "lost", "border", "any", "machine",
        "oops", "foo", "bar", "baz"};
    private static final String[] TONGUES = {"throws", "codes", "values", "exits"};
    private static final String[][] NUMBERS = {
        {"0", "1", "2", "3", "7", "9223372036854775807", "100000000000000001", "4294967297", "9007199254740993"},
        {"0", "1", "2", "3", "7", "2147483647", "65536"},
        {"0", "1", "2", "3", "7", "100000000000000000", "2147483648", "9007199254740993"},
        {"0", "1", "2", "3", "0.5", "7", "999999999999999", "0.00000000000001", "2.25", "99999999999.1"}};
    private static final String JUNK = "{}()[],;.&!=<>+-*/%~ \nabx09";

    private final Random random;
    private final StringBuilder text = new StringBuilder();
    private int tongue;
    private int depth;
    private int wrong = 0;
    private final StringBuilder log = new StringBuilder();

    // a tame house's texts seldom fail: a and b are NUMBERS, c is a function, d an array, and functions call only later ones
    private final boolean tame;
    private int function;
    private int guarded = 0;

    private FuzzTest(long seed) {
        random = new Random(seed);
        tame = seed % 2 == 1;
    }

    public static void main(String[] args) {
        int from = args.length > 0 ? Integer.parseInt(args[0]) : 0;
        int to = args.length > 1 ? Integer.parseInt(args[1]) : 6000;
        int wrong = 0;
        for (int seed = from; seed < to && wrong == 0; seed++) {
            FuzzTest test = new FuzzTest(seed);
            try {
                test.house();
            } catch (RuntimeException e) {
                test.wrong++;
                e.printStackTrace(System.out);
            }
            if (test.wrong > 0) {
                wrong++;
                System.out.println("seed " + seed + "\n" + test.log);
            }
        }
        if (args.length > 2) {
            System.out.println(java.util.Arrays.toString(SEEN));
        }
        if (wrong > 0) {
            System.exit(1);
        }
        System.out.println("FuzzTest: as the model has it");
    }

    static final long[] SEEN = new long[24];

    private int upTo(int n) {
        return random.nextInt(n);
    }

    private String one(String[] of) {
        return of[upTo(of.length)];
    }

    private void put(String s) {
        text.append(s).append(upTo(30) == 0 ? "\n " : " ");
    }

    private void due(String what, long got, long want) {
        if (got != want) {
            wrong++;
            log.append("  WRONG ").append(what).append(" answered ").append(got).append(", due is ").append(want).append('\n');
        }
    }

    private void house() {
        Counted x = new Counted();
        Model m = new Model();
        int rounds = 1 + upTo(3);
        for (int r = 0; r < rounds && wrong == 0; r++) {
            for (int t = 0; t < 4; t++) {
                if (r == 0 || upTo(3) == 0) {
                    take(x, m, t);
                }
            }
            borders(x, m);
            int calls = 2 + upTo(6);
            for (int i = 0; i < calls && wrong == 0 && x.left() >= RUN_MOST; i++) {
                run(x, m);
            }
        }
    }

    // calls that one run with all that is asked of it takes at most
    private static final int RUN_MOST = 90;

    private void borders(Counted x, Model m) {
        int n = upTo(14);
        for (int i = 0; i < n && x.left() > 0; i++) {
            int from = upTo(5) - (upTo(20) == 0 ? 1 : 0);
            int to = upTo(4);
            int rule = upTo(upTo(10) == 0 ? 5 : 3) - (upTo(20) == 0 ? 1 : 0);
            log.append("rule ").append(from).append(' ').append(to).append(' ').append(rule).append('\n');
            due("rule", x.rule(from, to, rule) ? 1 : 0, m.rule(from, to, rule) ? 1 : 0);
        }
        n = upTo(upTo(20) == 0 ? 150 : 14);
        for (int i = 0; i < n && x.left() > 0; i++) {
            int from = upTo(5) - (upTo(20) == 0 ? 1 : 0);
            int to = upTo(4);
            int what = upTo(17) - (upTo(5) == 0 ? 2 : 0);
            int as = upTo(16);
            log.append("entry ").append(from).append(' ').append(to).append(' ').append(what).append(' ').append(as).append('\n');
            due("entry", x.entry(from, to, what, as) ? 1 : 0, m.entry(from, to, what, as) ? 1 : 0);
        }
    }

    private void run(Counted x, Model m) {
        long[] numbers = {0, 1, 2, 3, 5, -1, 9, 4294967296L, Long.MAX_VALUE, Long.MIN_VALUE, 9007199254740993L, 100000000000000000L,
            -100000000000000001L, 2147483647, -2147483648L, Long.MAX_VALUE - 1023};
        int t = upTo(4);
        int f = upTo(upTo(9) == 0 ? 5 : Math.max(1, m.texts.get(t).size()));
        long a = upTo(3) == 0 ? numbers[upTo(numbers.length)] : upTo(6);
        log.append("call ").append(t).append(' ').append(f).append(' ').append(a).append('\n');
        int got = x.call(t, f, a);
        due("call", got, m.call(t, f, a));
        SEEN[got]++;
        for (int i = 0; i <= 10; i++) {
            due("look " + i, x.look(i), m.look(i));
        }
        due("answer", x.answer(), m.answer());
        int marks = m.look(3);
        for (int n = 0; n < 6; n++) {
            int i = marks <= 4 ? n - 1 : upTo(Math.min(marks + 2, 204)) - 1;
            due("mark " + i, x.mark(i), m.mark(i));
            due("markTongue " + i, x.markTongue(i), m.markTongue(i));
        }
        failures(x, m);
        count(m);
    }

    /** All of what came out and of one that it came from, some of the others and of what lies under them. */
    private void failures(Counted x, Model m) {
        int chain = 0;
        while (m.failure(chain, 0) >= 0) {
            chain++;
        }
        int one = upTo(chain + 2) - 1;
        for (int what = 0; what <= 6 && chain > 0; what++) {
            due("failure 0 " + what, x.failure(0, what), m.failure(0, what));
            due("failure " + one + " " + what, x.failure(one, what), m.failure(one, what));
        }
        int i = upTo(chain + 1);
        int k = upTo(Math.max(m.failure(i, 4), 0) + 1);
        for (int what = 0; what <= 6 && m.failure(i, 4) > 0; what++) {
            due("under " + i + " " + k + " " + what, x.under(i, k, what), m.under(i, k, what));
        }
        for (int n = 0; n < 4; n++) {
            int j = upTo(chain + 3) - 1;
            int what = upTo(10) - 1;
            int l = upTo(4) - 1;
            due("failure " + j + " " + what, x.failure(j, what), m.failure(j, what));
            due("under " + j + " " + l + " " + what, x.under(j, l, what), m.under(j, l, what));
        }
    }

    private static void count(Model m) {
        SEEN[5] += m.look(5) > 0 ? 1 : 0;
        SEEN[6] += m.look(6) > 0 ? 1 : 0;
        SEEN[7] += m.look(7) == 24 ? 1 : 0;
        SEEN[8] += m.failure(1, 0) >= 0 ? 1 : 0;
        SEEN[9] += m.failure(2, 0) >= 0 ? 1 : 0;
        SEEN[10] += m.under(0, 0, 0) >= 0 ? 1 : 0;
        SEEN[11] += m.under(0, 1, 0) >= 0 ? 1 : 0;
        SEEN[12] += m.look(4) > 0 ? 1 : 0;
        SEEN[13 + m.look(1)]++;
        SEEN[17] += m.look(2) > 20 ? 1 : 0;
        int fails = m.failure(0, 1);
        SEEN[18] += fails > 0 && fails < 10 && fails != 3 && fails != 4 ? 1 : 0;
    }

    private void take(Counted x, Model m, int t) {
        tongue = t;
        text.setLength(0);
        makeText();
        if (upTo(8) == 0) {
            spoil();
        }
        if (text.length() > 2980) {
            text.setLength(2980);
        }
        int n = text.length();
        if (x.left() < n / 20 + 20) {
            return;
        }
        int named = m.look(10);
        log.append("load ").append(t).append(' ').append(n).append('\n').append(text).append('\n');
        while (text.length() % 20 != 0) {
            text.append(' ');
        }
        for (int i = 0; i < text.length(); i += 20) {
            int[] v = new int[5];
            for (int k = 0; k < 20; k++) {
                v[k / 4] = v[k / 4] << 8 | text.charAt(i + k) & 255;
            }
            due("feed", x.feed(v[0], v[1], v[2], v[3], v[4]), m.feed(v[0], v[1], v[2], v[3], v[4]));
        }
        int got = x.load(t, n);
        due("load", got, m.load(t, n));
        due("fault", x.fault(), m.fault());
        SEEN[20 + m.fault()]++;
        due("names", x.look(10), m.look(10));
        for (int i = 0; i < 8; i++) {
            int name = upTo(3) == 0 ? upTo(56) - 2 : named + upTo(m.look(10) - named + 1);
            int k = upTo(10) - 1;
            due("letter " + k + " of " + name, x.letter(name, k), m.letter(name, k));
        }
    }

    private void spoil() {
        int times = 1 + upTo(2);
        for (int i = 0; i < times && text.length() > 0; i++) {
            int at = upTo(text.length());
            switch (upTo(5)) {
                case 0: text.deleteCharAt(at); break;
                case 1: text.insert(at, JUNK.charAt(upTo(JUNK.length()))); break;
                case 2: text.setCharAt(at, JUNK.charAt(upTo(JUNK.length()))); break;
                case 3: text.setLength(at); break;
                default: text.setCharAt(at, (char) upTo(256)); break;
            }
        }
    }

    // ---- texts

    private void makeText() {
        int n = upTo(30) == 0 ? 35 + upTo(8) : tame ? 4 : 1 + upTo(5);
        boolean many = n > 30;
        for (int i = 0; i < n; i++) {
            function = i;
            if (tongue == 0 && upTo(3) == 0) {
                put("kind");
                put(many ? name() + upTo(9) : upTo(20) > 0 ? NAMES[10 + upTo(4)] : name());
                put("under");
                put(upTo(6) > 0 ? NAMES[upTo(10)] : name());
                put(";");
            }
            put("fn");
            put(i < 4 && (tame || upTo(20) > 0) ? FUNCTIONS[i] : "z" + i);
            put("(");
            int parameters = 1 + (tame ? 0 : upTo(3) == 0 ? upTo(upTo(40) == 0 ? 5 : 4) : 0);
            for (int k = 0; k < parameters; k++) {
                put((k > 0 ? ", " : "") + (upTo(400) == 0 ? "a" : k < 4 ? VARIABLES[k] : "e"));
            }
            put(")");
            depth = 1;
            guarded = 0;
            put("{");
            if (upTo(150) > 0) {
                declare(parameters, many);
            }
            int statements = many ? 1 : 1 + upTo(tame ? 3 : 4);
            for (int k = 0; k < statements; k++) {
                statement();
            }
            if (upTo(3) > 0) {
                put("return");
                expression();
                put(";");
            }
            put("}");
        }
    }

    private void declare(int parameters, boolean many) {
        if (tame) {
            put("let b=" + upTo(5) + ";let c=&" + (upTo(2) == 0 ? one(TONGUES) + "." : "") + later() + ";let d=new[2];d[0]=a;d[1]=2;");
            return;
        }
        if (parameters < 4 && upTo(3) == 0) {
            // a variable that no statement gives a VALUE
            put("if ( 0 ) { let " + VARIABLES[parameters] + " = 1 ; } mark " + VARIABLES[parameters] + " == none ;");
        }
        for (int k = parameters; k < 4; k++) {
            put("let " + VARIABLES[k] + " = " + (upTo(2) == 0 ? "none" : upTo(4) == 0 ? "new [ 3 ]" : upTo(9)) + " ;");
        }
        if (many && upTo(4) == 0) {
            for (int k = 0; k < 9; k++) {
                put("let v" + k + " = " + k + ";");
            }
        }
    }

    private String name() {
        return one(NAMES);
    }

    /** A function that calls no earlier one, so that no tame house calls on and on. */
    private String later() {
        return FUNCTIONS[Math.min(function + 1 + upTo(3), 3)];
    }

    private void tameStatement() {
        switch (upTo(depth > 3 ? 6 : 14)) {
            case 0: case 1: put(upTo(2) == 0 ? "b =" : "let b ="); tameExpression(); put(";"); break;
            case 2: put("d [ " + upTo(2) + " ] ="); tameExpression(); put(";"); break;
            case 3: put("mark"); tameExpression(); put(";"); break;
            case 4: tameExpression(); put(";"); break;
            case 5: put("a ="); tameExpression(); put(";"); break;
            case 6: put("if ("); tameExpression(); put(")"); block(); if (upTo(2) == 0) { put("else"); block(); } break;
            case 7: put("let e = " + (1 + upTo(4)) + " ; while ( e ) { e = e - 1 ;"); depth++; statement(); depth--; put("}"); break;
            default: own(); break;
        }
    }

    private void tameExpression() {
        depth++;
        switch (upTo(depth > 4 || upTo(3) == 0 ? 4 : 15)) {
            case 0: case 1: put("" + upTo(8)); break;
            case 2: case 3: put(upTo(2) == 0 ? "a" : "b"); break;
            case 4: put("d [ " + upTo(upTo(12) == 0 ? 3 : 2) + " ]"); break;
            case 5: put("size ( d )"); break;
            case 6: case 7: put("("); tameExpression(); put(one(new String[] {"+", "-", "*", "<", "==", "!=", ">="})); tameExpression(); put(")"); break;
            case 8: put("("); tameExpression(); put(one(new String[] {"/", "%"}) + " " + (upTo(6) == 0 ? "a" : "3") + " )"); break;
            case 9: put("- " + (upTo(2) == 0 ? "a" : "b")); break;
            case 10: put(function < 3 ? "c ! (" : "("); tameExpression(); put(")"); break;
            case 11: put(function < 3 ? later() + " (" : "("); tameExpression(); put(function < 3 && upTo(4) == 0 ? ", 1 )" : ")"); break;
            case 12: case 13: put(function < 3 ? one(TONGUES) + " . " + later() + " (" : "("); tameExpression(); put(")"); break;
            default: ownExpression(); break;
        }
        if (tongue == 2 && depth < 6 && upTo(5) == 0) {
            put("else");
            tameExpression();
        }
        depth--;
    }

    private void block() {
        depth++;
        put("{");
        int n = depth > 3 ? upTo(2) : upTo(8) == 0 ? 0 : 1 + upTo(2);
        for (int i = 0; i < n; i++) {
            statement();
        }
        put("}");
        depth--;
    }

    private void statement() {
        if (tame && upTo(40) > 0) {
            tameStatement();
            return;
        }
        int kind = upTo(depth > 4 ? 6 : 17);
        switch (kind) {
            case 0: put("let " + one(VARIABLES) + " ="); expression(); put(";"); break;
            case 1: put(one(VARIABLES) + " ="); expression(); put(";"); break;
            case 2: put(one(VARIABLES)); put("["); expression(); put("] ="); expression(); put(";"); break;
            case 3: put("mark"); expression(); put(";"); break;
            case 4: expression(); put(";"); break;
            case 5: put("mark " + one(NUMBERS[tongue]) + " ;"); break;
            case 6: put("return"); expression(); put(";"); break;
            case 7: put("if ("); expression(); put(")"); block(); if (upTo(2) == 0) { put("else"); block(); } break;
            case 8: loop(); break;
            case 9: put("let b = new ["); expression(); put("] ;"); break;
            default: own(); break;
        }
    }

    private void loop() {
        if (upTo(8) == 0) {
            put("while (");
            expression();
            put(")");
            block();
            return;
        }
        put("let c = " + (1 + upTo(5)) + " ; while ( c ) { c = c - 1 ;");
        statement();
        put("}");
    }

    private void own() {
        switch (tongue) {
            case 0:
                if (upTo(3) == 0 && makesFailing()) {
                    put("throw " + name());
                    expression();
                    put(";");
                } else {
                    tryCatch();
                }
                break;
            case 1:
                if (upTo(2) == 0 && makesFailing()) {
                    put("fail");
                    expression();
                    put(";");
                } else {
                    put("on");
                    guardedBlock();
                    put("go");
                    block();
                }
                break;
            case 2:
                put("with");
                block();
                put("end");
                block();
                break;
            default:
                exits();
                break;
        }
    }

    /** A tame house fails where something is there to hold it. */
    private boolean makesFailing() {
        return !tame || guarded > 0 || upTo(20) == 0;
    }

    private void guardedBlock() {
        guarded++;
        block();
        guarded--;
    }

    private void tryCatch() {
        put("try");
        int catches = upTo(3);
        if (catches > 0) {
            guardedBlock();
        } else {
            block();
        }
        for (int i = 0; i < catches; i++) {
            put("catch " + (tame && upTo(2) == 0 ? "any" : name()) + " " + (tame || upTo(4) == 0 ? "z" : one(VARIABLES)));
            block();
        }
        if (catches == 0 && upTo(40) > 0 || upTo(2) == 0) {
            put("finally");
            block();
        }
    }

    private void exits() {
        int kind = upTo(3);
        if (kind == 0 && makesFailing()) {
            put("exit " + (tame && upTo(2) == 0 ? "foo" : name()));
            expression();
            put(";");
        } else if (kind == 1) {
            put("open " + (tame ? one(new String[] {"foo", "lost", "zero", "border"}) : name()) + " " + (tame || upTo(4) == 0 ? "z" : one(VARIABLES)));
            guardedBlock();
            put("then");
            block();
        } else {
            put("clean");
            block();
            put("do");
            block();
        }
    }

    private void expression() {
        if (tame && upTo(40) > 0) {
            tameExpression();
            return;
        }
        depth++;
        int kind = upTo(depth > (upTo(300) == 0 ? 9 : 7) ? 4 : depth > 5 ? 5 : 24);
        switch (kind) {
            case 0: case 1: put(one(NUMBERS[tongue])); break;
            case 2: case 3: put(one(VARIABLES)); break;
            case 4: put(upTo(3) == 0 ? "none" : "1"); break;
            case 5: case 6: expression(); put(one(new String[] {"+", "-", "*", "/", "%"})); expression(); break;
            case 7: put("("); expression(); put(")"); break;
            case 8: put("( a"); put(one(new String[] {"<", "<=", ">", ">=", "==", "!="})); expression(); put(")"); break;
            case 9: put("-"); put(one(VARIABLES)); break;
            case 10: put("new ["); put("" + upTo(5)); put("]"); break;
            case 11: put("size ("); expression(); put(")"); break;
            case 12: case 13: put(one(VARIABLES)); put("["); put("" + upTo(3)); put("]"); break;
            case 14: put("& " + (upTo(2) == 0 ? one(TONGUES) + " . " : "") + one(FUNCTIONS)); break;
            case 15: put(one(VARIABLES)); put("!"); arguments(); break;
            case 16: case 17: case 18: put(one(FUNCTIONS)); arguments(); break;
            case 19: case 20: case 21: case 22: put(one(TONGUES) + " . " + one(FUNCTIONS)); arguments(); break;
            default: ownExpression(); break;
        }
        if (tongue == 2 && depth < 7 && upTo(9) == 0) {
            put("else");
            expression();
        }
        depth--;
    }

    private void arguments() {
        put("(");
        int n = upTo(300) == 0 ? 7 + upTo(4) : 1 + upTo(upTo(4) == 0 ? 4 : 2);
        for (int i = 0; i < n; i++) {
            if (i > 0) {
                put(",");
            }
            if (n > 4) {
                put("1");
            } else if (i == 0 && upTo(3) == 0) {
                put("a - 1");
            } else {
                expression();
            }
        }
        put(")");
    }

    private void ownExpression() {
        if (tongue == 1) {
            put("cell");
        } else if (tongue == 2 && upTo(3) == 0) {
            put("tag (");
            expression();
            put(")");
        } else if (tongue == 2) {
            put("bad " + name() + " (");
            expression();
            put(")");
        } else {
            put("- 2");
        }
    }
}
