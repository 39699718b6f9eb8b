import java.math.BigDecimal;
import java.math.BigInteger;

/** Terms 4 sentence by sentence: what goes over BORDERS, and what fails there. */
public final class TermsFourTest {
    private static final BigInteger WHOLE = BigInteger.TEN.pow(17);
    private static final BigInteger LEAST_LONG = BigInteger.valueOf(Long.MIN_VALUE);
    private static final BigInteger MOST_LONG = BigInteger.valueOf(Long.MAX_VALUE);

    public static void main(String[] args) {
        argumentsThatAreNotTurned();
        argumentsFromTheLeft();
        answersThatAreNotTurned();
        othersAreAsTheyAre();
        ruleIsNoughtAtFirst();
        ruleNought();
        ruleOne();
        ruleTwo();
        ruleOfEachWay();
        fivePlacesThatTurn();
        failuresOverEachBorder();
        becomesByTheEntry();
        becomesByTheNearestKind();
        becomesByTheDefault();
        valueIsTurned();
        placeIsTheCallers();
        cameFromTheOther();
        arisesAtTheCall();
        notOverHomeCalls();
        House.close("TermsFourTest");
    }

    // NUMBERS of each TONGUE, as expressions, at the ends of all of them; all are exact
    private static final String[][] NUMBERS = {
        {"0", "1", "-1", "2147483647", "2147483648", "-2147483648", "-2147483649", "4294967295", "4294967296", "4294967301", "-4294967301", "100000000000000000", "100000000000000001", "-100000000000000000", "-100000000000000001",
            "200000000000000003", "-123456789012345678", "9007199254740992", "9007199254740993", "-9007199254740993", "9007199254740995", "99999999999999999", "9223372036854775807", "-9223372036854775807", "-9223372036854775807 - 1", "9223372036854774784", "4611686018427387905"},
        {"0", "1", "-1", "2147483647", "-2147483647", "-2147483647 - 1"},
        {"0", "1", "-1", "2147483647", "2147483648", "-2147483648", "-2147483649", "4294967296", "-4294967301", "100000000000000000", "-100000000000000000", "99999999999999999", "-99999999999999999", "9007199254740993", "9007199254740992"},
        {"0", "-0", "1", "-1", "0.5", "-0.5", "7.9", "-7.9", "2147483647", "2147483647.5", "2147483648", "-2147483648", "-2147483648.5", "-2147483649", "4294967301.75", "100000000 * 1000000000", "100000000 * 1000000000 + 16", "-100000000 * 1000000000", "-100000000 * 1000000000 - 16",
            "1048576 * 1048576 * 8388608", "1048576 * 1048576 * 8388608 - 1024", "-1048576 * 1048576 * 8388608", "-1048576 * 1048576 * 8388608 - 2048", "100000000000000 * 100000000000000", "-100000000000000 * 100000000000000", "0.00000000000001"}
    };

    /** The very number that a TONGUE makes of an expression: signs from the left, * and / ahead of + and -. */
    private static BigDecimal exact(String expression) {
        int plus = Math.max(expression.lastIndexOf(" + "), expression.lastIndexOf(" - "));
        if (plus >= 0) {
            BigDecimal left = exact(expression.substring(0, plus));
            BigDecimal right = exact(expression.substring(plus + 3));
            return expression.charAt(plus + 1) == '+' ? left.add(right) : left.subtract(right);
        }
        int times = Math.max(expression.lastIndexOf(" * "), expression.lastIndexOf(" / "));
        if (times >= 0) {
            BigDecimal left = exact(expression.substring(0, times));
            BigDecimal right = exact(expression.substring(times + 3));
            return expression.charAt(times + 1) == '*' ? left.multiply(right) : left.divide(right);
        }
        return new BigDecimal(expression);
    }

    private static BigDecimal numberOf(int tongue, String expression) {
        BigDecimal number = exact(expression);
        return tongue == 3 ? new BigDecimal(number.doubleValue()) : number;
    }

    private static boolean has(int tongue, BigDecimal number) {
        if (tongue == 3) {
            return new BigDecimal(number.doubleValue()).compareTo(number) == 0;
        }
        if (number.stripTrailingZeros().scale() > 0) {
            return false;
        }
        return clamped(tongue, number.toBigInteger()).equals(number.toBigInteger());
    }

    private static BigInteger clamped(int tongue, BigInteger whole) {
        BigInteger most = tongue == 0 ? MOST_LONG : tongue == 1 ? BigInteger.valueOf(Integer.MAX_VALUE) : WHOLE;
        BigInteger least = tongue == 0 ? LEAST_LONG : tongue == 1 ? BigInteger.valueOf(Integer.MIN_VALUE) : WHOLE.negate();
        return whole.min(most).max(least);
    }

    /** What comes of a number by a RULE, as MARKS tell it; null if it isn't turned. */
    private static Long turned(int to, int rule, BigDecimal number) {
        if (rule == 0 && !has(to, number)) {
            return null;
        }
        if (to == 3) {
            return Double.doubleToRawLongBits(number.doubleValue() + 0.0);
        }
        BigInteger whole = number.toBigInteger();
        if (rule != 1) {
            return clamped(to, whole).longValueExact();
        }
        long asLong = clamped(0, whole).longValueExact();
        return to == 0 ? asLong : to == 1 ? (long) (int) asLong : BigInteger.valueOf(asLong).remainder(WHOLE).longValueExact();
    }

    private static void argumentsThatAreNotTurned() {
        House.sentence("each argument is turned (one that isn't: BORDER, in the caller, at the call, nothing is called)");
        String[] not = {"2147483648", null, "100000000000000000 / 10 * 3", "0.5"};
        for (int from = 0; from < 4; from++) {
            for (int to = 0; to < 4; to++) {
                if (from == to || from == 1 || from == 2 && to == 0 || from == 0 && to == 2) {
                    continue;
                }
                String number = from == 0 && to == 3 || from == 2 && to == 3 ? "9007199254740993" : not[from];
                House house = new House().with(from, "fn e() { } fn f(a) { mark 1;\n return " + House.TONGUES[to] + ".g(" + number + "); } fn h(a) { let p = &" + House.TONGUES[to] + ".g; return p!(a, " + number + "); }").with(to, "fn g(a) { mark 2; }");
                house.fails(from, 1, 0, 9).marksOf(from, 1).failureAt(0, from, 9, "return " + House.TONGUES[to], 0, 0, 0, 1).failure(1, -1).looks(5, 0).looks(6, 0).looks(7, 1);
                house.fails(from, 2, 0, 9).marks().failureAt(0, from, 9, "return p!", 0, 0, 0, 2).looks(5, 0);
            }
        }
        House house = new House().with(0, "fn f(a) { values.g(a); }").with(2, "fn g(a) { mark a; }");
        house.answersNone(0, 0, 100000000000000000L).fails(0, 0, 100000000000000001L, 9).marks().answersNone(0, 0, -100000000000000000L).fails(0, 0, -100000000000000001L, 9);
        // those that are too many, too
        new House().with(0, "fn f(a) { codes.g(a); }").with(1, "fn g() { mark 1; }").answersNone(0, 0, 1).marks(1).fails(0, 0, 2147483648L, 9).marks();
    }

    private static void argumentsFromTheLeft() {
        House.sentence("each argument is turned, from the left");
        // all are worked out, then turned: the second isn't, so the third is no STEP
        House house = new House().with(0, "fn m(a) { mark a; return a; } fn f(a) { codes.g(m(1), a, m(3)); }").with(1, "fn g(a) { }");
        house.answersNone(0, 1, 2).marks(1, 3).looks(2, 1 + 3 + 3 + 1 + 3).fails(0, 1, 2147483648L, 9).marks(1, 3).looks(2, 1 + 3 + 3 + 1 + 2 + 1);
    }

    private static void answersThatAreNotTurned() {
        House.sentence("its answer is turned back (one that isn't: BORDER)");
        House house = new House().with(1, "fn f(a) { let x = throws.f(a); mark 1; return x; } fn g(a) { on { throws.f(a); mark 1; } go { return cell; } }").with(0, "fn f(a) { mark 2; return a * 2; } fn g(a) { return values.f(a); } fn h(a) { try { return exits.h(a); } catch border x { return x == none; } }")
            .with(2, "fn f(a) { mark 3; return exits.h(a); } fn g(a) { return exits.h(a) else 44; }").with(3, "fn h(a) { return a / 2; } fn f(a) { open border x { return throws.k(a); } then { return 5; } }");
        house.answers(1, 0, 1073741823, 2147483646).fails(1, 0, 1073741824, 9).marks(2).failureAt(0, 1, 9, "let x =", 0, 0, 0, 0).failure(1, -1).looks(5, 1).looks(6, 0).looks(9, 9);
        house.answersNone(1, 1, 5).marks(2, 1).answers(1, 1, 1073741824, 9).marks(2);
        house.answers(2, 0, 4, 2).fails(2, 0, 3, 9).failureAt(0, 2, 9, "return exits.h(a); } fn g", 0, 0, 0, 0).looks(6, 0).answers(2, 1, 3, 44).answers(2, 1, 4, 2);
        house.answers(0, 2, 4, 2).answers(0, 2, 3, 1).answers(0, 1, 4, 2).fails(0, 1, 3, 9).failureAt(0, 0, 9, "return values.f(a);", 2, 0, 0, 1).failure(1, 2, 9);
        house.with(0, "fn k(a) { return 9007199254740993; }").answersReal(3, 1, 0, 5);
    }

    private static void othersAreAsTheyAre() {
        House.sentence("none, arrays, functions are as they are");
        for (int from = 0; from < 4; from++) {
            for (int to = 0; to < 4; to++) {
                if (from != to) {
                    House house = new House().with(from, "fn f(a) { let x = new[2]; x[0] = 7; mark " + House.TONGUES[to] + ".g(none) == none; mark " + House.TONGUES[to] + ".g(x) == x; mark " + House.TONGUES[to] + ".g(&f) == &f; let h = " + House.TONGUES[to] + ".h(); mark h == &" + House.TONGUES[to] + ".g; mark h!(x) == x; return x[0]; }")
                        .with(to, "fn g(a) { return a; } fn h() { return &g; }");
                    house.answersWhole(from, 0, 0, 7).marksOf(from, 1, 1, 1, 1, 1).looks(5, 5).looks(6, 0);
                    house.x.rule(from, to, 1);
                    house.x.rule(to, from, 2);
                    house.answersWhole(from, 0, 0, 7).marksOf(from, 1, 1, 1, 1, 1);
                }
            }
        }
    }

    /** Each NUMBER of each TONGUE goes to each other one, as an argument. */
    private static void allGo(int rule, boolean told) {
        for (int from = 0; from < 4; from++) {
            for (int to = 0; to < 4; to++) {
                if (from != to) {
                    for (String number : NUMBERS[from]) {
                        House house = new House().with(from, "fn f(a) { return " + House.TONGUES[to] + ".g(" + number + "); }").with(to, "fn g(a) { mark a; }");
                        if (told) {
                            House.due("rule", house.x.rule(from, to, rule), true);
                        }
                        Long want = turned(to, rule, numberOf(from, number));
                        if (want == null) {
                            house.fails(from, 0, 0, 9).marks();
                        } else {
                            House.due("outcome of " + number + " from " + from + " to " + to, house.x.call(from, 0, 0), 0);
                            House.due(number + " from " + from + " to " + to + " by " + rule, house.x.mark(0), want);
                            House.due("its TONGUE", house.x.markTongue(0), to);
                        }
                    }
                }
            }
        }
    }

    private static void ruleIsNoughtAtFirst() {
        House.sentence("by the RULE of the border (0 at first)");
        allGo(0, false);
    }

    private static void goes(int from, int to, int rule, String number, long want) {
        House house = new House().with(from, "fn f(a) { return " + House.TONGUES[to] + ".g(" + number + "); }").with(to, "fn g(a) { mark a; }");
        house.x.rule(from, to, rule);
        house.answersNone(from, 0, 0).marks(want);
    }

    private static void stays(int from, int to, String number) {
        House house = new House().with(from, "fn f(a) { return " + House.TONGUES[to] + ".g(" + number + "); }").with(to, "fn g(a) { mark a; }");
        house.x.rule(from, to, 0);
        house.fails(from, 0, 0, 9).marks();
    }

    private static void ruleNought() {
        House.sentence("0: the same number, if the other TONGUE has it, else not turned");
        allGo(0, true);
        goes(0, 1, 0, "2147483647", 2147483647);
        stays(0, 1, "2147483648");
        goes(0, 1, 0, "-2147483648", -2147483648L);
        stays(0, 1, "-2147483649");
        stays(0, 1, "4294967296");
        goes(0, 2, 0, "100000000000000000", 100000000000000000L);
        stays(0, 2, "100000000000000001");
        stays(0, 2, "-9223372036854775807 - 1");
        stays(0, 3, "9007199254740993");
        stays(0, 3, "9223372036854775807");
        goes(0, 3, 0, "-9223372036854775807 - 1", Double.doubleToRawLongBits(-0x1p63));
        stays(2, 3, "99999999999999999");
        stays(3, 0, "0.5");
        stays(3, 0, "1048576 * 1048576 * 8388608");
        goes(3, 0, 0, "-1048576 * 1048576 * 8388608", Long.MIN_VALUE);
        goes(3, 0, 0, "-0", 0);
        stays(3, 1, "2147483647.5");
        stays(3, 2, "100000000 * 1000000000 + 16");
    }

    private static void ruleOne() {
        House.sentence("1: to 0 as a long (a double towards 0, beyond the ends the end), to 1 that's lowest 32 bits, to 2 that modulo 10^17 (its sign), to 3 the nearest double");
        allGo(1, true);
        goes(3, 0, 1, "-7.9", -7);
        goes(3, 0, 1, "1048576 * 1048576 * 8388608", Long.MAX_VALUE);
        goes(3, 0, 1, "-100000000000000 * 100000000000000", Long.MIN_VALUE);
        goes(0, 1, 1, "2147483648", -2147483648L);
        goes(0, 1, 1, "4294967295", -1);
        goes(3, 1, 1, "4294967301.75", 5);
        goes(3, 1, 1, "100000000000000 * 100000000000000", -1);
        goes(3, 1, 1, "-100000000000000 * 100000000000000", 0);
        goes(0, 2, 1, "100000000000000000", 0);
        goes(0, 2, 1, "-123456789012345678", -23456789012345678L);
        goes(0, 2, 1, "9223372036854775807", 23372036854775807L);
        goes(3, 2, 1, "-100000000000000 * 100000000000000", -23372036854775808L);
        goes(3, 2, 1, "100000000 * 1000000000", 0);
        goes(0, 3, 1, "9007199254740993", Double.doubleToRawLongBits(9007199254740992.0));
        goes(0, 3, 1, "9223372036854775807", Double.doubleToRawLongBits(0x1p63));
    }

    private static void ruleTwo() {
        House.sentence("2: to the nearest that there is, a double towards 0 (to 3 the nearest double)");
        allGo(2, true);
        goes(0, 1, 2, "2147483648", 2147483647);
        goes(0, 1, 2, "-9223372036854775807 - 1", -2147483648L);
        goes(0, 2, 2, "100000000000000001", 100000000000000000L);
        goes(0, 2, 2, "-9223372036854775807 - 1", -100000000000000000L);
        goes(2, 1, 2, "-2147483649", -2147483648L);
        goes(3, 0, 2, "-7.9", -7);
        goes(3, 0, 2, "7.9", 7);
        goes(3, 0, 2, "100000000000000 * 100000000000000", Long.MAX_VALUE);
        goes(3, 1, 2, "2147483648.5", 2147483647);
        goes(3, 2, 2, "-100000000000000 * 100000000000000", -100000000000000000L);
        goes(0, 3, 2, "9007199254740995", Double.doubleToRawLongBits(9007199254740996.0));
    }

    private static void ruleOfEachWay() {
        House.sentence("A NUMBER by the RULE of the border: each way has its own");
        House house = new House().with(0, "fn f(a) { return codes.f(a); } fn g(a) { return codes.g(a); } fn h(a) { return values.f(a); }").with(1, "fn f(a) { return a; } fn g(a) { return throws.k(); }").with(2, "fn f(a) { return a; }");
        house.with(0, "fn f(a) { return codes.f(a); } fn g(a) { return codes.g(a); } fn h(a) { return values.f(a); } fn k() { return 4294967301; }");
        house.fails(0, 0, 4294967301L, 9);
        house.x.rule(1, 0, 1);
        house.x.rule(0, 2, 1);
        house.fails(0, 0, 4294967301L, 9).answers(0, 2, 100000000000000005L, 5);
        house.x.rule(0, 1, 1);
        house.answers(0, 0, 4294967301L, 5).answers(0, 1, 0, 5);
        house.x.rule(0, 1, 2);
        house.answers(0, 0, 4294967301L, 2147483647).answers(0, 1, 0, 2147483647);
        house.x.rule(0, 1, 0);
        house.fails(0, 0, 4294967301L, 9);
    }

    private static void fivePlacesThatTurn() {
        House.sentence("turned: an argument, an answer, a cell's VALUE, what is put there, a FAILURE's VALUE");
        House house = new House().with(3, "fn f(a) { return values.f(a / 2); } fn g(a) { let x = values.x(); x[0] = a / 2; return x[0]; } fn h(a) { return throws.h(a); }").with(2, "fn f(a) { return a; } fn x() { return new[1]; } fn g(a) { let x = exits.y(); return x[0]; } fn k(a) { return exits.z(); } fn l(a) { return exits.w(); }");
        house.fails(3, 0, 3, 9).fails(3, 1, 3, 4);
        house.x.rule(3, 2, 2);
        house.answersReal(3, 0, 3, 1).answersReal(3, 1, -3, -1);
        house.with(3, "fn y() { let x = new[1]; x[0] = 3.5; return x; } fn z() { return -3.5; } fn w() { open foo x { exit foo 2.5; } then { throws.t(x); } }").with(0, "fn t(a) { throw foo a; }");
        house.answers(2, 2, 0, 3).answers(2, 3, 0, -3);
        // 2.5 isn't THROWS', so BORDER arises at the call, with none
        house.fails(2, 4, 0, 9).failure(1, 3, 9);
        House.due("its VALUE", house.x.failure(1, 5), 0);
        house.x.rule(3, 0, 1);
        house.fails(2, 4, 0, 9).failure(1, 3, 9).failure(2, 0, 12);
        House.due("its VALUE", house.x.failure(0, 5), 1);
    }

    private static final String[] FAILING = {"throw foo a;", "fail 12;", "return bad foo(a);", "a = 1 / 0;"};
    private static final int[] WHAT = {12, 12, 12, 1};

    /** TONGUE to calls a function of TONGUE from that fails; what comes of it is the FAILURE that comes out. */
    private static House over(int from, int to) {
        House house = new House().with(from, "fn z() { } fn b(a) { " + FAILING[from] + " }");
        return house.with(to, "fn f(a) { " + (to == 1 ? "on { codes1; } go { fail cell; }" : to == 2 ? "return codes1;" : "codes1;").replace("codes1", House.TONGUES[from] + ".b(a)") + " mark 9; }");
    }

    private static void failuresOverEachBorder() {
        House.sentence("A FAILURE that leaves a function over a border (0: THROWN out of it; 1: left FAILING; 2: an answer that FAILS; 3: an EXIT out of it): becomes one of the caller's TONGUE");
        for (int from = 0; from < 4; from++) {
            for (int to = 0; to < 4; to++) {
                if (from != to) {
                    House house = over(from, to).fails(to, 0, 5, 9).marks().looks(6, 1).looks(5, 1);
                    if (to != 1) {
                        house.failure(0, to, 9).failure(1, from, WHAT[from], 21, 0, 0, from == 0 || from == 2 ? 1 : 0, 1).failure(2, -1);
                        House.due("by a DEFAULT", house.x.failure(0, 3), 2);
                    }
                }
            }
        }
        // what is held at home goes over no border
        House house = new House().with(0, "fn f(a) { try { throw foo a; } catch foo x { return 1; } }").with(1, "fn f(a) { on { fail 3; } go { } return 2; } fn g(a) { return throws.f(a) + values.f(a) + exits.f(a); }").with(2, "fn f(a) { bad foo(1); return bad foo(1) else 3; }").with(3, "fn f(a) { open foo x { exit foo 1; } then { return 4; } }");
        house.answers(1, 1, 0, 8).looks(6, 0).looks(5, 3);
    }

    private static void becomesByTheEntry() {
        House.sentence("by the ENTRY from that TONGUE to this one for what it is");
        for (int from = 0; from < 4; from++) {
            for (int to = 0; to < 4; to++) {
                if (from != to) {
                    House house = over(from, to);
                    int other = from != 0 && to != 0 ? 0 : from != 1 && to != 1 ? 1 : 2;
                    // those of other borders, other ways and of something else aren't it
                    house.x.entry(to, from, 1, 2);
                    house.x.entry(from, other, WHAT[from], 3);
                    house.x.entry(from, to, 4, 5);
                    house.fails(to, 0, 5, 9);
                    House.due("entry", house.x.entry(from, to, WHAT[from], 7), true);
                    house.fails(to, 0, 5, 7).looks(6, 1);
                    if (to != 1) {
                        House.due("by an ENTRY", house.x.failure(0, 3), 1);
                    }
                    // in place of what was told for it
                    House.due("entry again", house.x.entry(from, to, WHAT[from], 6), true);
                    house.fails(to, 0, 5, 6);
                }
            }
        }
    }

    private static void becomesByTheNearestKind() {
        House.sentence("(of 0 for the nearest KIND that it is UNDER, itself first, that has one)");
        House house = new House().with(0, "kind son under foo; kind foo under zero; fn f(a) { if (a == 1) { throw son a; } if (a == 2) { throw foo a; } if (a == 3) { a = 1 / 0; } throw own a; }").with(2, "fn f(a) { return tag(throws.f(a)); }");
        int[][] due = {{9, 9, 9, 9}, {1, 1, 1, 1}, {2, 2, 2, 1}, {3, 3, 3, 1}, {4, 4, 3, 1}, {5, 4, 3, 1}};
        int[] told = {0, 10, 11, 1, 13, 12};
        for (int i = 0; i < due.length; i++) {
            if (i > 0) {
                House.due("entry", house.x.entry(0, 2, told[i], i), true);
            }
            for (int a = 1; a <= 4; a++) {
                house.answers(2, 0, a, due[i][a - 1]);
            }
        }
        // of the other TONGUES what it is alone counts
        house = new House().with(2, "fn f(a) { return 1 / 0; }").with(3, "fn f(a) { a = 1 / 0; }").with(1, "fn f(a) { 1 / 0; }").with(0, "fn f(a) { values.f(a); } fn g(a) { exits.f(a); } fn h(a) { codes.f(a); }");
        for (int from = 1; from < 4; from++) {
            house.x.entry(from, 0, 10, 2);
            house.x.entry(from, 0, 11, 3);
        }
        house.fails(0, 0, 0, 9).fails(0, 1, 0, 9).fails(0, 2, 0, 9);
    }

    private static void becomesByTheDefault() {
        House.sentence("else the DEFAULT of the border (BORDER, in 1 CODE 9, at first)");
        for (int from = 0; from < 4; from++) {
            for (int to = 0; to < 4; to++) {
                if (from != to) {
                    House house = over(from, to).fails(to, 0, 5, 9);
                    House.due("DEFAULT", house.x.entry(from, to, 0, 3), true);
                    house.fails(to, 0, 5, 3);
                    if (to != 1) {
                        House.due("by a DEFAULT", house.x.failure(0, 3), 2);
                    }
                    House.due("the other way", house.x.entry(to, from, 0, 4), true);
                    house.fails(to, 0, 5, 3);
                    // an ENTRY comes ahead of it
                    house.x.entry(from, to, WHAT[from], 2);
                    house.fails(to, 0, 5, 2);
                }
            }
        }
        House house = over(0, 1);
        house.x.entry(0, 1, 0, -2147483648);
        house.fails(1, 0, 0, -2147483648);
    }

    private static void valueIsTurned() {
        House.sentence("its VALUE is that one's turned (none if it isn't)");
        House house = new House().with(0, "fn f(a) { throw foo a; } fn g(a) { throw foo new[2]; } fn h(a) { throw foo &f; } fn k(a) { throw foo none; } fn l(a) { try { values.f(a); } catch any x { return x; } }")
            .with(3, "fn f(a) { open border x { throws.f(a); } then { return x; } } fn g(a) { throws.g(a); } fn h(a) { throws.h(a); } fn k(a) { throws.k(a); } fn l(a) { open border x { throws.m(); } then { return x; } }").with(2, "fn f(a) { return bad foo(a); }");
        house.answersReal(3, 0, 7, 7).fails(3, 1, 7, 9).failure(0, 3, 9).answers(0, 4, -7, -7);
        int[] sorts = {2, 3, 0};
        for (int f = 1; f <= 3; f++) {
            house.fails(3, f, 7, 9);
            House.due("its VALUE", house.x.failure(0, 5), sorts[f - 1]);
            House.due("that one's", house.x.failure(1, 5), sorts[f - 1]);
        }
        house.with(0, "fn m() { throw foo 9007199254740993; }").answersNone(3, 4, 0);
        house.x.rule(0, 3, 2);
        house.answersReal(3, 4, 0, 9007199254740992.0);
    }

    private static void placeIsTheCallers() {
        House.sentence("PLACE that of the caller's statement");
        House house = new House().with(0, "fn e() { }\nfn f(a) { mark 1; if (a) { let x = 1 +\n values.f(a); } }").with(2, "fn f(a) { if (a) { return bad foo(1); } }");
        house.fails(0, 1, 1, 9).failureAt(0, 0, 9, "let x = 1", 2, 0, 1, 1).failureAt(1, 2, 12, "return bad foo(1);", 0, 0, 1, 0);
    }

    private static void cameFromTheOther() {
        House.sentence("it came from the other one");
        House house = new House().with(0, "fn f(a) { values.f(a); }").with(2, "fn f(a) { return exits.f(a); }").with(3, "fn f(a) { codes.f(a); }").with(1, "fn f(a) { fail a; }");
        house.fails(0, 0, 5, 9).failure(0, 0, 9).failure(1, 2, 9).failure(2, 3, 9).failure(3, 1, 5).failure(4, -1).looks(6, 3).looks(5, 3);
        house.fails(2, 0, 6, 9).failure(0, 2, 9).failure(1, 3, 9).failure(2, 1, 6).failure(3, -1).looks(6, 2);
        // what lies under it stays behind
        house = new House().with(0, "fn f(a) { try { throw foo 1; } finally { throw bar 2; } }").with(2, "fn f(a) { return throws.f(a); }").fails(2, 0, 0, 9).under(0, 0, -1).under(1, 0, 0, 12);
        House.due("none under it", house.x.failure(0, 4), 0);
        House.due("one under that", house.x.failure(1, 4), 1);
    }

    private static void arisesAtTheCall() {
        House.sentence("It arises in the caller at the call, as 3. says (in 2 the call's VALUE FAILS)");
        House house = new House().with(1, "fn b(a) { fail a; } fn f(a) { let x = values.f(a); return x; }").with(0, "fn f(a) { try { mark 1; codes.b(a); mark 2; } catch border x { mark 3; } return 7; }").with(2, "fn f(a) { let x = codes.b(a); mark tag(x); return 7 + codes.b(a) else 8; } fn g(a) { if (codes.b(a)) { mark 1; } mark 2; } fn h(a) { codes.b(a); return 4; }")
            .with(3, "fn f(a) { open border x { mark 1; codes.b(a); mark 2; } then { mark 3; } return 7; } fn g(a) { open border x { h(a); } then { return 6; } } fn h(a) { codes.b(a); }");
        house.answers(0, 0, 5, 7).marks(1, 3).answers(2, 0, 5, 8).marks(9).fails(2, 1, 5, 9).marks().answers(2, 2, 5, 4).looks(4, 1).answersReal(3, 0, 5, 7).marksOf(3, 1, 3).answersReal(3, 1, 5, 6);
        // the parts behind it aren't worked out
        house = new House().with(0, "fn m() { mark 9; return 1; } fn f(a) { m() + codes.b(a) + m(); }").with(1, "fn b(a) { fail a; }").fails(0, 1, 5, 9).marks(9);
    }

    private static void notOverHomeCalls() {
        House.sentence("A call from one TONGUE to another: one's own TONGUE is none");
        for (int t = 0; t < 4; t++) {
            House house = new House().with(t, "fn f(a) { return " + House.TONGUES[t] + ".g(a); } fn g(a) { return a; } fn h(a) { let p = &" + House.TONGUES[t] + ".g; return p!(a); }");
            house.answersWhole(t, 0, 5, 5).looks(5, 0).looks(2, 3).answersWhole(t, 2, 5, 5).looks(5, 0).looks(2, 4);
        }
        new House().with(0, "fn f(a) { try { return throws.g(a); } catch foo x { return x; } } fn g(a) { throw foo a; }").answers(0, 0, Long.MIN_VALUE, Long.MIN_VALUE).looks(6, 0);
    }
}
