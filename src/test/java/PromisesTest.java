import java.lang.reflect.Field;
import java.lang.reflect.Method;
import java.lang.reflect.Modifier;
import java.util.Arrays;
import java.util.TreeSet;

/** Promises 1 to 8 sentence by sentence: the face at its edges. */
public final class PromisesTest {
    private static final int[] ENDS = {Integer.MIN_VALUE, -1000000, -2, -1, 11, 12, 52, 64, 1000000, Integer.MAX_VALUE};

    public static void main(String[] args) {
        publicFace();
        usedForFiveHundredAndTwelveCalls();
        newObjectHasNoTexts();
        newObjectHasRulesNoughtAndNoEntries();
        newObjectHasAnEmptyTape();
        newObjectHasCalledNothing();
        feedTwentyBytesTheHighestFirst();
        feedUpToThreeThousand();
        loadTheFirstBytes();
        loadEmptiesTheTape();
        loadTellsHowManyFunctions();
        loadWithAFaultAllStays();
        loadOfNoSuchTongueOrLength();
        faultOfTheLatestLoad();
        letters();
        lettersOfNoneSuch();
        rulesThatAre();
        rulesOfEachBorder();
        rulesThatAreNot();
        entriesInPlace();
        entriesOfEachBorder();
        entriesThatAreNot();
        hundredEntries();
        defaultOfTheBorder();
        defaultsOfEachBorder();
        callsAndTheirOutcomes();
        callOfNoSuchFunction();
        callOfANumberThatCannotBe();
        callByRuleNought();
        cellFromRunToRun();
        House.close("PromisesTest");
    }

    private static void publicFace() {
        House.sentence("The public face");
        TreeSet<String> want = new TreeSet<>(Arrays.asList("int feed[int, int, int, int, int]", "int load[int, int]", "int fault[]", "int letter[int, int]", "boolean rule[int, int, int]", "boolean entry[int, int, int, int]",
            "int call[int, int, long]", "int look[int]", "long answer[]", "long mark[int]", "int markTongue[int]", "int failure[int, int]", "int under[int, int, int]"));
        TreeSet<String> got = new TreeSet<>();
        for (Method method : FourTongues.class.getDeclaredMethods()) {
            if (!Modifier.isPrivate(method.getModifiers()) && !method.isSynthetic()) {
                got.add(method.getReturnType() + " " + method.getName() + Arrays.toString(method.getParameterTypes()));
                House.due(method.getName() + " is public, of an object", Modifier.isPublic(method.getModifiers()) && !Modifier.isStatic(method.getModifiers()), true);
            }
        }
        House.due("the methods " + got, got.equals(want), true);
        for (Field field : FourTongues.class.getDeclaredFields()) {
            House.due("only NONE is open, not " + field.getName(), Modifier.isPrivate(field.getModifiers()) || field.isSynthetic(), !field.getName().equals("NONE"));
        }
        House.due("NONE", FourTongues.NONE, -1);
        House.due("one constructor", FourTongues.class.getDeclaredConstructors().length, 1);
        House.due("without arguments, public", FourTongues.class.getConstructors().length == 1 && FourTongues.class.getConstructors()[0].getParameterCount() == 0, true);
        House.due("public and final", Modifier.isPublic(FourTongues.class.getModifiers()) && Modifier.isFinal(FourTongues.class.getModifiers()), true);
    }

    private static void usedForFiveHundredAndTwelveCalls() {
        House.sentence("An object is used for at most 512 calls after it has been made");
        House house = new House().with(0, "fn f(a) { let x = new[400]; x[a] = a; mark x[a]; return codes.f(a); }").with(1, "fn f(a) { on { fail a; } go { return cell; } }");
        for (int i = 1; house.x.left() >= 4; i++) {
            House.due("call", house.x.call(0, 0, i), 0);
            House.due("answer", house.x.answer(), i);
            House.due("mark", house.x.mark(0), i);
            House.due("CELL", house.x.look(9), i);
        }
        while (house.x.left() > 0) {
            House.due("STEPS, up to the last call", house.x.look(2), 11);
        }
    }

    private static void newObjectHasNoTexts() {
        House.sentence("No texts");
        Counted x = new Counted();
        for (int t = 0; t < 4; t++) {
            for (int f = -1; f <= 41; f++) {
                House.due("call of " + t + "." + f, x.call(t, f, 1), 3);
            }
        }
        for (int t = 0; t < 4; t++) {
            for (int u = 0; u < 4; u++) {
                if (t != u) {
                    new House().with(t, "fn f(a) { return " + House.TONGUES[u] + ".f(a); }").fails(t, 0, 1, 3);
                }
            }
        }
    }

    private static void newObjectHasRulesNoughtAndNoEntries() {
        House.sentence("RULES 0, no ENTRIES");
        // 4294967296, or 9007199254740993, or 0.5 isn't turned; from CODES all is
        String[] not = {"4294967296", null, "4294967296", "0.5"};
        String[] failing = {"throw any 1;", "fail 1;", "return bad any(1);", "a = 1 / 0;"};
        for (int t = 0; t < 4; t++) {
            for (int u = 0; u < 4; u++) {
                if (t != u) {
                    String number = u == 3 && t != 1 ? "9007199254740993" : t == 0 && u == 2 ? "100000000000000001" : not[t];
                    if (t != 1 && !(t == 2 && u == 0)) {
                        new House().with(t, "fn f(a) { return " + House.TONGUES[u] + ".f(" + number + "); }").with(u, "fn f(a) { }").fails(t, 0, 1, 9);
                    }
                    House house = new House().with(u, "fn f(a) { " + failing[u] + " }").with(t, t == 1 ? "fn f(a) { " + House.TONGUES[u] + ".f(a); fail cell; }" : "fn f(a) { return " + House.TONGUES[u] + ".f(a); }").fails(t, 0, 1, 9);
                    if (t != 1) {
                        House.due("by a DEFAULT", house.x.failure(0, 3), 2);
                    }
                }
            }
        }
    }

    private static void newObjectHasAnEmptyTape() {
        House.sentence("an empty TAPE");
        House.due("nothing there", new Counted().load(0, 1), -5000);
        House.due("nothing is a text", new Counted().load(0, 0), 0);
        House.due("twenty", new Counted().feed(0, 0, 0, 0, 0), 20);
    }

    private static void newObjectHasCalledNothing() {
        House.sentence("CELL 0, nothing called; 0 ahead of any run (8 to 10 as they are)");
        Counted x = new Counted();
        for (int what = 0; what <= 9; what++) {
            House.due("look " + what, x.look(what), 0);
        }
        House.due("NAMES", x.look(10), 11);
        House.due("answer", x.answer(), 0);
        House.due("fault", x.fault(), 0);
        for (int i = -1; i < 3; i++) {
            House.due("mark", x.mark(i), 0);
            House.due("markTongue", x.markTongue(i), -1);
            for (int what = -1; what <= 7; what++) {
                House.due("failure", x.failure(i, what), -1);
                for (int k = -1; k < 2; k++) {
                    House.due("under", x.under(i, k, what), -1);
                }
            }
        }
        // a text alone is no run, but its NAMES are there
        House house = new House().with(0, "fn f(a) { throw foo a; }");
        for (int what = 0; what <= 9; what++) {
            house.looks(what, 0);
        }
        house.looks(10, 12);
        House.due("a call of none", house.x.call(0, 1, 0), 3);
        house.looks(0, 0).looks(8, 0);
    }

    private static int four(String text, int i) {
        return text.charAt(i) << 24 | text.charAt(i + 1) << 16 | text.charAt(i + 2) << 8 | text.charAt(i + 3);
    }

    private static int feed(Counted x, String twenty) {
        return x.feed(four(twenty, 0), four(twenty, 4), four(twenty, 8), four(twenty, 12), four(twenty, 16));
    }

    private static void feedTwentyBytesTheHighestFirst() {
        House.sentence("Twenty bytes come behind the TAPE, four of each number, the highest first: how many it has");
        Counted x = new Counted();
        House.due("20", feed(x, "fn f(a){return a+1;}"), 20);
        House.due("40", feed(x, "fn g(a){return a*3;}"), 40);
        House.due("60", feed(x, "fn h(a){return -a; }"), 60);
        House.due("three functions", x.load(0, 60), 3);
        x.call(0, 0, 5);
        House.due("f", x.answer(), 6);
        x.call(0, 1, 5);
        House.due("g", x.answer(), 15);
        x.call(0, 2, 5);
        House.due("h", x.answer(), -5);
        // each byte is one of 0 to 255: in each of the twenty places one that begins no TOKEN
        for (int k = 0; k < 20; k++) {
            for (char c : new char[] {0, 127, 128, 200, 255}) {
                StringBuilder text = new StringBuilder(" ".repeat(20));
                text.setCharAt(k, c);
                Counted y = new Counted();
                House.due("20", feed(y, text.toString()), 20);
                House.due("the place " + k, y.load(1, 20), -k - 1);
                House.due("kind", y.fault(), 1);
            }
        }
    }

    private static void feedUpToThreeThousand() {
        House.sentence("NONE, and none come, if it would have more than 3000");
        Counted x = new Counted();
        for (int i = 1; i <= 149; i++) {
            House.due("feed", feed(x, " ".repeat(20)), 20 * i);
        }
        House.due("the last", feed(x, "fn f(a){return a+1;}"), 3000);
        House.due("one more", feed(x, "fn g(a){return a+1;}"), -1);
        House.due("and again", x.feed(0, 0, 0, 0, 0), -1);
        House.due("not 3001", x.load(2, 3001), -5000);
        House.due("not 3020", x.load(2, 3020), -5000);
        House.due("what was there", x.load(2, 3000), 1);
        House.due("answered", x.call(2, 0, 8), 0);
        House.due("it", x.answer(), 9);
        House.due("anew", feed(x, " ".repeat(20)), 20);
    }

    private static void loadTheFirstBytes() {
        House.sentence("The TAPE's first n bytes are TONGUE t's text from now on");
        for (int t = 0; t < 4; t++) {
            House house = new House();
            String two = "fn f(a) { return 1; } fn g(a) { return 2; }";
            house.feedText(two);
            House.due("the first alone", house.x.load(t, 21), 1);
            house.answersWhole(t, 0, 0, 1);
            House.due("no second", house.x.call(t, 1, 0), 3);
            house.feedText(two);
            House.due("both", house.x.load(t, two.length()), 2);
            house.answersWhole(t, 1, 0, 2);
            house.feedText(two);
            House.due("less one byte", house.x.load(t, two.length() - 1), -two.length());
            house.answersWhole(t, 1, 0, 2);
            for (int u = 0; u < 4; u++) {
                House.due("no other TONGUE's", house.x.call(u, 0, 0), u == t ? 0 : 3);
            }
            house.feedText(two);
            House.due("none of it", house.x.load(t, 0), 0);
            House.due("no function", house.x.call(t, 0, 0), 3);
        }
    }

    private static void loadEmptiesTheTape() {
        House.sentence("(it is empty then)");
        House house = new House();
        house.feedText("fn f(a) { return 1; } fn g(a) { return 2; }");
        House.due("the first alone", house.x.load(0, 21), 1);
        House.due("no byte is left", house.x.load(0, 1), -5000);
        House.due("it begins anew", house.feedText("fn h(a) { }"), 20);
        House.due("alone", house.x.load(1, 11), 1);
        house.feedText("fn h(a) { }");
        House.due("nothing taken of it", house.x.load(1, 0), 0);
        House.due("no byte is left", house.x.load(1, 1), -5000);
        house.feedText("fn h(a) { ? } fn k(a) { }");
        House.due("with a FAULT", house.x.load(1, 11), -10 - 1);
        House.due("no byte is left", house.x.load(1, 1), -5000);
        House.due("it begins anew", house.feedText("fn k(a) { }"), 20);
    }

    private static void loadTellsHowManyFunctions() {
        House.sentence("how many functions");
        StringBuilder text = new StringBuilder();
        for (int n = 0; n <= 40; n++) {
            House.fine(n % 4, text.toString(), n);
            text.append("fn f").append(n).append("(){}");
        }
        House.faulty(0, text.toString(), 2, text.indexOf("f40"));
    }

    private static void loadWithAFaultAllStays() {
        House.sentence("less a FAULT's place, less 1: all stays");
        House house = new House().with(0, "kind a under b; fn f(n) { try { throw a 1; } catch b x { return 1; } catch any x { return 2; } } fn g(n) { throw c n; }").looks(10, 14).answers(0, 0, 0, 1);
        String[] faulty = {"?", "fn f(n) { throw new1 1; } fn", "kind a under any; fn f(n, n) { }", "fn f(n) { return 9; } fn g(a, b, c, d, e) { }", "kind d under e; kind a under a;"};
        int[] places = {0, 28, 26, 39, 29};
        int[] kinds = {1, 1, 3, 2, 3};
        for (int i = 0; i < faulty.length; i++) {
            House.due("load of " + faulty[i], house.take(0, faulty[i]), -places[i] - 1);
            House.due("its kind", house.x.fault(), kinds[i]);
            house.looks(0, i == 0 ? 0 : 1).looks(10, 14).answers(0, 0, 0, 1).fails(0, 1, 4, 14);
            House.due("two functions", house.x.call(0, 2, 0), 3);
            House.due("no further NAME", house.x.letter(15, 0), -1);
        }
        // of 40 further NAMES the last one's KIND stays, too
        StringBuilder names = new StringBuilder("kind k0 under any;");
        for (int i = 1; i < 40; i++) {
            names.append("kind k").append(i).append(" under any;");
        }
        House full = new House().with(0, names + "fn f(a) { try { throw k39 1; } catch k0 x { return 1; } catch any x { return 2; } }").answers(0, 0, 0, 2);
        House.due("a FAULT", full.take(0, "kind k39 under k0; ?"), -19 - 1);
        full.looks(10, 51).answers(0, 0, 0, 2);
        House.due("place 0", house.take(3, "1"), -1);
        House.due("no text", house.x.call(3, 0, 0), 3);
    }

    private static void loadOfNoSuchTongueOrLength() {
        House.sentence("-5000: no such TONGUE, or n is below 0 or more than there are (the TAPE stays)");
        House house = new House().with(1, "fn f(a) { return 7; }");
        house.feedText("fn g(a) { return 8; } fn h(a) { }");
        for (int t : new int[] {-1, 4, 5, Integer.MIN_VALUE, Integer.MAX_VALUE}) {
            House.due("TONGUE " + t, house.x.load(t, 21), -5000);
            House.due("TONGUE " + t, house.x.load(t, 0), -5000);
        }
        for (int n : new int[] {-1, 41, 42, 60, 3000, 3001, Integer.MIN_VALUE, Integer.MAX_VALUE}) {
            House.due("n " + n, house.x.load(1, n), -5000);
        }
        House.due("fault", house.x.fault(), 0);
        house.answers(1, 0, 0, 7);
        House.due("behind them", house.x.feed(538976288, 538976288, 538976288, 538976288, 538976288), 60);
        House.due("it stayed", house.x.load(1, 60), 2);
        house.answers(1, 0, 0, 8);
    }

    private static void faultOfTheLatestLoad() {
        House.sentence("The kind of the latest load()'s FAULT (0 without; one with -5000 tells nothing)");
        House house = new House();
        House.due("ahead of any", house.x.fault(), 0);
        house.take(0, "fn f(a, b, c, d, e) { }");
        House.due("2", house.x.fault(), 2);
        House.due("-5000", house.x.load(0, 99), -5000);
        House.due("still 2", house.x.fault(), 2);
        house.take(1, "fn f(a, a) { }");
        House.due("3", house.x.fault(), 3);
        House.due("-5000", house.x.load(4, 0), -5000);
        House.due("still 3", house.x.fault(), 3);
        house.take(2, "fn f(a");
        House.due("1", house.x.fault(), 1);
        house.take(3, "fn f(a) { }");
        House.due("0", house.x.fault(), 0);
        House.due("-5000", house.x.load(0, -1), -5000);
        House.due("still 0", house.x.fault(), 0);
        house.x.call(3, 0, 0);
        House.due("a call tells none", house.x.fault(), 0);
    }

    private static void letters() {
        House.sentence("Letter k of a NAME by its number");
        House house = new House().with(0, "fn f(a) { throw a 1; throw z9 1; throw abcdefgh 1; throw a0000000 1; }");
        String[] names = {"zero", "index", "nothing", "sort", "size", "deep", "trap", "lost", "border", "any", "machine", "a", "z9", "abcdefgh", "a0000000"};
        for (int i = 0; i < names.length; i++) {
            for (int k = 0; k < names[i].length(); k++) {
                House.due("letter " + k + " of " + names[i], house.x.letter(i + 1, k), names[i].charAt(k));
            }
        }
    }

    private static void lettersOfNoneSuch() {
        House.sentence("letter: NONE if there is none such");
        House house = new House().with(0, "fn f(a) { throw abcdefgh 1; throw b 1; }");
        int[] lengths = {4, 5, 7, 4, 4, 4, 4, 4, 6, 3, 7, 8, 1};
        for (int i = 0; i < lengths.length; i++) {
            for (int k : new int[] {lengths[i], lengths[i] + 1, 8, 9, 64, -1, Integer.MIN_VALUE, Integer.MAX_VALUE}) {
                House.due("letter " + k + " of " + (i + 1), house.x.letter(i + 1, k), -1);
            }
        }
        for (int name : new int[] {0, -1, 14, 15, 51, 52, 53, 1000, Integer.MIN_VALUE, Integer.MAX_VALUE}) {
            House.due("NAME " + name, house.x.letter(name, 0), -1);
        }
    }

    private static void rulesThatAre() {
        House.sentence("The RULE from one TONGUE to another (0, 1, 2): true");
        Counted x = new Counted();
        for (int from = 0; from < 4; from++) {
            for (int to = 0; to < 4; to++) {
                for (int rule = 0; rule <= 2 && from != to; rule++) {
                    House.due("rule " + from + to + rule, x.rule(from, to, rule), true);
                }
            }
        }
        House house = new House().with(0, "fn f(a) { return codes.f(a); }").with(1, "fn f(a) { return a; }");
        house.fails(0, 0, 4294967301L, 9);
        house.x.rule(0, 1, 1);
        house.answers(0, 0, 4294967301L, 5);
        house.x.rule(0, 1, 2);
        house.answers(0, 0, 4294967301L, 2147483647);
        house.x.rule(0, 1, 0);
        house.fails(0, 0, 4294967301L, 9);
    }

    /** A NUMBER that RULE 0 doesn't turn from one TONGUE to another; null if it turns all. */
    private static String notTurned(int from, int to) {
        if (from == 1 || from == 2 && to == 0) {
            return null;
        }
        return from == 3 ? "0.5" : to == 1 ? "2147483648" : to == 2 ? "100000000000000001" : "9007199254740993";
    }

    private static void rulesOfEachBorder() {
        House.sentence("The RULE from one TONGUE to another: of that border alone");
        House house = new House();
        for (int from = 0; from < 4; from++) {
            StringBuilder text = new StringBuilder("fn b(a) { }");
            for (int to = 0; to < 4; to++) {
                String number = notTurned(from, to);
                text.append("fn f").append(to).append("(a) { return ").append(from == to || number == null ? "1" : House.TONGUES[to] + ".b(" + number + ")").append("; }");
            }
            house.with(from, text.toString());
        }
        for (int border = 0; border < 16; border++) {
            for (int rule = 2; rule >= 0 && border / 4 != border % 4; rule -= 2) {
                House.due("rule", house.x.rule(border / 4, border % 4, rule), true);
                for (int other = 0; other < 16; other++) {
                    int from = other / 4;
                    int to = other % 4;
                    if (from != to && notTurned(from, to) != null && (other == border || from == border / 4 || to == border % 4)) {
                        House.due(from + " to " + to + " as " + border + " has " + rule, house.x.call(from, 1 + to, 0), other == border && rule == 2 ? 0 : 1);
                    }
                }
            }
        }
    }

    private static void rulesThatAreNot() {
        House.sentence("false, and nothing happens, for others, or from one to itself");
        House house = new House().with(0, "fn f(a) { return codes.f(a); }").with(1, "fn f(a) { return a; }");
        house.x.rule(0, 1, 1);
        for (int wrong : ENDS) {
            House.due("rule " + wrong, house.x.rule(0, 1, wrong), false);
            House.due("from " + wrong, house.x.rule(wrong, 1, 2), false);
            House.due("to " + wrong, house.x.rule(0, wrong, 2), false);
        }
        House.due("rule 3", house.x.rule(0, 1, 3), false);
        House.due("from 4", house.x.rule(4, 1, 2), false);
        House.due("to 4", house.x.rule(0, 4, 2), false);
        House.due("to 5", house.x.rule(0, 5, 2), false);
        for (int t = 0; t < 4; t++) {
            for (int rule = 0; rule <= 2; rule++) {
                House.due("to itself", house.x.rule(t, t, rule), false);
            }
        }
        house.answers(0, 0, 4294967301L, 5);
    }

    private static void entriesInPlace() {
        House.sentence("what fails in one TONGUE becomes that in another: true, in place of what was told for it");
        House house = new House().with(1, "fn f(a) { fail a; }").with(0, "fn f(a) { codes.f(a); } fn g(a) { throw foo a; }").with(3, "fn f(a) { codes.f(a); }");
        for (int code : new int[] {1, -1, 12, 1000000, Integer.MIN_VALUE, Integer.MAX_VALUE}) {
            house.fails(0, 0, code, 9);
            House.due("entry", house.x.entry(1, 0, code, 12), true);
            house.fails(0, 0, code, 12);
            House.due("again", house.x.entry(1, 0, code, 11), true);
            house.fails(0, 0, code, 11).failure(1, 1, code);
            // each border has its own
            house.fails(3, 0, code, 9);
        }
        house.fails(0, 0, 2, 9);
    }

    /** Each TONGUE's function 1 + u calls one of TONGUE u that fails with ZERO, and fails with what it becomes. */
    private static House failingAll() {
        House house = new House();
        for (int t = 0; t < 4; t++) {
            StringBuilder text = new StringBuilder("fn b(a) { return 1 / 0; }");
            for (int u = 0; u < 4; u++) {
                text.append("fn f").append(u).append("(a) { ").append(t == 1 ? House.TONGUES[u] + ".b(); fail cell;" : "return " + House.TONGUES[u] + ".b();").append(" }");
            }
            house.with(t, text.toString());
        }
        return house;
    }

    private static void becomesOnlyOver(House house, int border, int what) {
        for (int other = 0; other < 16; other++) {
            int from = other / 4;
            int to = other % 4;
            if (from != to) {
                house.fails(to, 1 + from, 0, other == border ? what : 9);
            }
        }
    }

    private static void entriesOfEachBorder() {
        House.sentence("An ENTRY: of that border alone");
        for (int border = 0; border < 16; border++) {
            if (border / 4 != border % 4) {
                House house = failingAll();
                House.due("entry", house.x.entry(border / 4, border % 4, 1, 3), true);
                becomesOnlyOver(house, border, 3);
            }
        }
    }

    private static void defaultsOfEachBorder() {
        House.sentence("the DEFAULT of the border: of that border alone");
        for (int border = 0; border < 16; border++) {
            if (border / 4 != border % 4) {
                House house = failingAll();
                House.due("DEFAULT", house.x.entry(border / 4, border % 4, 0, 3), true);
                becomesOnlyOver(house, border, 3);
            }
        }
    }

    private static void entriesThatAreNot() {
        House.sentence("false, and nothing happens: no such TONGUES, NAME, CODE, from one to itself");
        House house = new House().with(0, "fn f(a) { throw foo a; }").with(2, "fn f(a) { return tag(throws.f(a)); }").with(1, "fn f(a) { throws.f(a); return cell; }");
        House.due("good", house.x.entry(0, 2, 12, 8), true);
        for (int wrong : ENDS) {
            House.due("from " + wrong, house.x.entry(wrong, 2, 12, 7), false);
            House.due("to " + wrong, house.x.entry(0, wrong, 12, 7), false);
            if (wrong < 0 || wrong > 12) {
                House.due("what " + wrong, house.x.entry(0, 2, wrong, 7), false);
                House.due("what of 2 " + wrong, house.x.entry(2, 3, wrong, 7), false);
                House.due("what of 3 " + wrong, house.x.entry(3, 2, wrong, 7), false);
                House.due("as " + wrong, house.x.entry(0, 2, 12, wrong), false);
                House.due("as in 0 " + wrong, house.x.entry(1, 0, 12, wrong), false);
                House.due("as in 3 " + wrong, house.x.entry(0, 3, 12, wrong), false);
                House.due("DEFAULT as " + wrong, house.x.entry(0, 2, 0, wrong), false);
            }
        }
        House.due("from 4", house.x.entry(4, 2, 12, 7), false);
        House.due("to 4", house.x.entry(0, 4, 12, 7), false);
        House.due("what 13", house.x.entry(0, 2, 13, 7), false);
        House.due("as 13", house.x.entry(0, 2, 12, 13), false);
        House.due("as 0", house.x.entry(0, 2, 12, 0), false);
        House.due("as CODE 0", house.x.entry(0, 1, 12, 0), false);
        House.due("DEFAULT as 0", house.x.entry(0, 2, 0, 0), false);
        House.due("DEFAULT as CODE 0", house.x.entry(0, 1, 0, 0), false);
        for (int t = 0; t < 4; t++) {
            House.due("to itself", house.x.entry(t, t, 12, 7), false);
            House.due("DEFAULT to itself", house.x.entry(t, t, 0, 7), false);
        }
        house.answers(2, 0, 1, 8).answers(1, 0, 1, 9);
        House.due("what 12 is there", house.x.entry(0, 1, 12, 7), true);
        house.answers(1, 0, 1, 7);
        // a NAME is there from its text on
        house.with(3, "fn f(a) { exit bar a; }");
        House.due("what 13 now", house.x.entry(0, 2, 13, 7), true);
        House.due("as 13 now", house.x.entry(0, 2, 12, 13), true);
        house.answers(2, 0, 1, 13);
    }

    private static void hundredEntries() {
        House.sentence("or a 101st ENTRY");
        House house = new House().with(1, "fn f(a) { fail a; }").with(0, "fn f(a) { codes.f(a); }").with(3, "fn f(a) { codes.f(a); }");
        for (int code = 1; code <= 60; code++) {
            House.due("entry " + code, house.x.entry(1, 0, code, 2), true);
        }
        for (int code = 1; code <= 40; code++) {
            House.due("entry " + (60 + code), house.x.entry(1, 3, -code, 3), true);
        }
        House.due("the 101st", house.x.entry(1, 0, 61, 2), false);
        House.due("of another border", house.x.entry(1, 3, -41, 3), false);
        House.due("of another one still", house.x.entry(0, 2, 1, 3), false);
        house.fails(0, 0, 61, 9).fails(3, 0, -41, 9).fails(0, 0, 60, 2).fails(3, 0, -40, 3).fails(0, 0, 1, 2).fails(3, 0, -1, 3);
        // in place of one that is there, and DEFAULTS, go on
        House.due("in place", house.x.entry(1, 0, 60, 4), true);
        House.due("in place", house.x.entry(1, 3, -1, 5), true);
        House.due("DEFAULT", house.x.entry(1, 0, 0, 6), true);
        house.fails(0, 0, 60, 4).fails(3, 0, -1, 5).fails(0, 0, 61, 6);
        House.due("still a 101st", house.x.entry(1, 0, 61, 2), false);
        // a DEFAULT is none of the 100
        Counted x = new Counted();
        for (int code = 0; code <= 100; code++) {
            House.due("entry " + code, x.entry(1, 0, code, 2), true);
        }
        House.due("the 101st", x.entry(1, 0, 101, 2), false);
    }

    private static void defaultOfTheBorder() {
        House.sentence("What 0: the DEFAULT of the border");
        House house = new House().with(1, "fn f(a) { fail a; } fn g(a) { throws.g(a); return cell; }").with(0, "fn f(a) { codes.f(a); } fn g(a) { throw any a; }").with(3, "fn f(a) { codes.f(a); }");
        house.fails(0, 0, 5, 9).failure(0, 0, 9, 10, 2);
        House.due("DEFAULT", house.x.entry(1, 0, 0, 11), true);
        house.fails(0, 0, 5, 11).failure(0, 0, 11, 10, 2).fails(3, 0, 5, 9).answers(1, 1, 5, 9);
        House.due("DEFAULT as a CODE", house.x.entry(0, 1, 0, -300), true);
        house.answers(1, 1, 5, -300).fails(0, 0, 5, 11);
        House.due("told otherwise", house.x.entry(1, 0, 0, 9), true);
        house.fails(0, 0, 5, 9).failure(0, 0, 9, 10, 2);
    }

    private static void callsAndTheirOutcomes() {
        House.sentence("0 answered, 1 failed (a FAILURE came out; of 2 an answer that FAILS), 2 SPENT");
        String[] failing = {"throw foo a;", "fail 3;", "return bad foo(a);", "exit foo a;"};
        for (int t = 0; t < 4; t++) {
            House house = new House().with(t, "fn f(a) { return a; } fn g(a) { " + failing[t] + " } fn h(a) { while (1) { } } fn k() { }");
            House.due("answered", house.x.call(t, 0, 5), 0);
            house.looks(0, 0).looks(1, 1);
            House.due("failed", house.x.call(t, 1, 5), 1);
            house.looks(0, 1).looks(1, 0);
            House.due("SPENT", house.x.call(t, 2, 5), 2);
            house.looks(0, 2).looks(1, 0);
            House.due("answered none", house.x.call(t, 3, 5), 0);
            house.looks(0, 0).looks(1, 0).failure(0, -1, -1, -1, -1, -1, -1, -1);
        }
        new House().with(2, "fn f(a) { bad foo(1); 1 / 0; let x = bad foo(2); }").answersNone(2, 0, 0);
    }

    private static void callOfNoSuchFunction() {
        House.sentence("3 there is no such function (nothing happens)");
        for (int t = 0; t < 4; t++) {
            House house = new House().with(t, "fn f(a) { mark a; return a; } fn g(a) { return 0; }").answersWhole(t, 0, 5, 5);
            for (int f : new int[] {-1, 2, 3, 39, 40, 41, 64, Integer.MIN_VALUE, Integer.MAX_VALUE}) {
                House.due("f " + f, house.x.call(t, f, 1), 3);
            }
            for (int u : new int[] {-1, 4, 5, Integer.MIN_VALUE, Integer.MAX_VALUE, (t + 1) % 4}) {
                House.due("TONGUE " + u, house.x.call(u, 0, 1), 3);
            }
            house.looks(0, 0).looks(1, 1).looks(2, 2).looks(7, 1).looks(8, 2).marksOf(t, 5);
            House.due("the answer stays", house.x.answer(), House.told(t, 5));
            House.due("the last there is", house.x.call(t, 1, 1), 0);
        }
    }

    private static void callOfANumberThatCannotBe() {
        House.sentence("4 the NUMBER can't be (nothing happens)");
        House house = new House();
        for (int t = 0; t < 4; t++) {
            house.with(t, "fn f(a) { mark a; return a; }");
        }
        long[][] good = {{Long.MIN_VALUE, Long.MAX_VALUE}, {-2147483648L, 2147483647}, {-100000000000000000L, 100000000000000000L}, {Long.MIN_VALUE, 9007199254740992L, -9007199254740992L, 9007199254740994L, Long.MAX_VALUE - 1023}};
        long[][] wrong = {{}, {-2147483649L, 2147483648L, 4294967296L, Long.MIN_VALUE, Long.MAX_VALUE}, {-100000000000000001L, 100000000000000001L, Long.MIN_VALUE, Long.MAX_VALUE},
            {9007199254740993L, -9007199254740993L, Long.MAX_VALUE, Long.MAX_VALUE - 511, Long.MAX_VALUE - 1022, Long.MIN_VALUE + 1}};
        for (int t = 0; t < 4; t++) {
            for (long a : good[t]) {
                house.answersWhole(t, 0, a, a);
            }
            int life = house.x.look(8);
            for (long a : wrong[t]) {
                House.due(a + " in " + t, house.x.call(t, 0, a), 4);
            }
            house.looks(0, 0).looks(1, 1).looks(2, 2).looks(3, 1).looks(8, life);
            House.due("the answer stays", house.x.answer(), House.told(t, good[t][good[t].length - 1]));
        }
        House.due("3 ahead of 4", house.x.call(1, 1, Long.MAX_VALUE), 3);
        // it must be, though the function has no parameter
        house.with(1, "fn f() { }");
        House.due("no parameter", house.x.call(1, 0, 2147483648L), 4);
    }

    private static void callByRuleNought() {
        House.sentence("a turned as from TONGUE 0 by RULE 0");
        House house = new House();
        for (int t = 1; t < 4; t++) {
            house.with(t, "fn f(a) { return a; }");
            for (int rule = 0; rule <= 2; rule++) {
                house.x.rule(0, t, rule);
                House.due("by RULE 0 alone", house.x.call(t, 0, Long.MAX_VALUE), 4);
                house.answersWhole(t, 0, 77, 77).looks(2, 1).looks(5, 0);
            }
        }
    }

    private static void cellFromRunToRun() {
        House.sentence("The CELL stays from run to run");
        House house = new House().with(1, "fn f(a) { fail a; } fn g(a) { return cell; } fn h(a) { fail 8; while (1) { } } fn k(a) { f(6); while (1) { } }").with(0, "fn f(a) { return codes.g(); }");
        house.fails(1, 0, 5, 5).answers(1, 1, 0, 5).answers(0, 0, 0, 5).looks(9, 5).isSpent(1, 3, 0).looks(9, 6).answers(1, 1, 0, 6);
        house.with(1, "fn g(a) { return cell; }").looks(9, 6).answers(1, 0, 0, 6);
        House.due("a faulty text", house.take(1, "?") < 0, true);
        House.due("call of none", house.x.call(1, 7, 0), 3);
        house.answers(1, 0, 0, 6);
    }
}
