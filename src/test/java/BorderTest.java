/** Section 4: what goes over borders (promises 6, 7, 8, 9, 13). */
public final class BorderTest {
    public static void main(String[] args) {
        ruleNought();
        ruleOne();
        ruleTwo();
        asTheyAre();
        arguments();
        answersBack();
        foreignCells();
        entries();
        kinds();
        values();
        chains();
        House.close("BorderTest");
    }

    /** A house whose function 0 of TONGUE from gives a NUMBER to TONGUE to as an argument. */
    private static House going(int from, int to, int rule, String number) {
        House house = new House().with(from, "fn f(a) { return " + House.TONGUES[to] + ".g(" + number + "); }").with(to, "fn g(a) { mark a; }");
        House.due("rule", house.x.rule(from, to, rule), true);
        return house;
    }

    private static void goes(int from, int to, int rule, String number, long want) {
        House house = going(from, to, rule, number);
        house.answersNone(from, 0, 0).marks(want).looks(5, 1);
        House.due("tongue of " + number, house.x.markTongue(0), to);
    }

    private static void goesReal(int from, int to, int rule, String number, double want) {
        goes(from, to, rule, number, Double.doubleToRawLongBits(want));
    }

    private static void stays(int from, int to, int rule, String number) {
        // the statement, the number's own signs, the call, the argument, the FAILURE
        int steps = 4 + number.replaceAll("[^-+*/]", "").length();
        going(from, to, rule, number).fails(from, 0, 0, 9).marks().looks(5, 0).looks(6, 0).looks(2, steps);
    }

    private static final String LEAST = "-9223372036854775807 - 1";

    private static void ruleNought() {
        goes(0, 1, 0, "2147483647", 2147483647);
        stays(0, 1, 0, "2147483648");
        goes(0, 1, 0, "-2147483648", -2147483648L);
        stays(0, 1, 0, "-2147483649");
        goes(0, 2, 0, "100000000000000000", 100000000000000000L);
        stays(0, 2, 0, "100000000000000001");
        stays(0, 2, 0, LEAST);
        goesReal(0, 3, 0, "9007199254740992", 9007199254740992.0);
        stays(0, 3, 0, "9007199254740993");
        stays(0, 3, 0, "9223372036854775807");
        goesReal(0, 3, 0, LEAST, -9223372036854775808.0);
        goes(1, 0, 0, "-2147483647 - 1", -2147483648L);
        goes(1, 2, 0, "2147483647", 2147483647);
        goesReal(1, 3, 0, "2147483647", 2147483647.0);
        goes(2, 0, 0, "-100000000000000000", -100000000000000000L);
        stays(2, 1, 0, "2147483648");
        goesReal(2, 3, 0, "100000000000000000", 1e17);
        stays(2, 3, 0, "99999999999999999");
        goes(3, 0, 0, "-5", -5);
        goes(3, 0, 0, "-0", 0);
        stays(3, 0, 0, "0.5");
        stays(3, 0, 0, "1048576 * 1048576 * 8388608");
        goes(3, 0, 0, "-1048576 * 1048576 * 8388608", Long.MIN_VALUE);
        goes(3, 0, 0, "1048576 * 1048576 * 8388607.5", 9223371487098961920L);
        goes(3, 1, 0, "2147483647", 2147483647);
        stays(3, 1, 0, "2147483648");
        stays(3, 1, 0, "2147483647.5");
        goes(3, 2, 0, "100000000 * 1000000000", 100000000000000000L);
        stays(3, 2, 0, "100000000 * 1000000000 + 16");
    }

    private static void ruleOne() {
        goes(0, 1, 1, "4294967301", 5);
        goes(0, 1, 1, "2147483648", -2147483648L);
        goes(0, 1, 1, LEAST, 0);
        goes(0, 2, 1, "100000000000000000", 0);
        goes(0, 2, 1, "-123456789012345678", -23456789012345678L);
        goes(0, 2, 1, "9223372036854775807", 9223372036854775807L % 100000000000000000L);
        goesReal(0, 3, 1, "9007199254740993", 9007199254740992.0);
        goesReal(0, 3, 1, "9223372036854775807", 9223372036854775808.0);
        goes(1, 0, 1, "-5", -5);
        goes(2, 1, 1, "-4294967301", -5);
        goes(2, 0, 1, "7", 7);
        goesReal(2, 3, 1, "99999999999999999", 1e17);
        goes(3, 0, 1, "-7.9", -7);
        goes(3, 0, 1, "1000000 * 100000000000000", Long.MAX_VALUE);
        goes(3, 0, 1, "0 - 1000000 * 1000000000000", -1000000000000000000L);
        goes(3, 1, 1, "4294967301.75", 5);
        goes(3, 1, 1, "1000000 * 100000000000000", -1 & (int) Long.MAX_VALUE);
        goes(3, 1, 1, "-1000000 * 100000000000000", 0);
        goes(3, 2, 1, "-1000000 * 100000000000000", Long.MIN_VALUE % 100000000000000000L);
        goes(3, 2, 1, "1.5", 1);
    }

    private static void ruleTwo() {
        goes(0, 1, 2, "4294967301", 2147483647);
        goes(0, 1, 2, LEAST, -2147483648L);
        goes(0, 1, 2, "-5", -5);
        goes(0, 2, 2, "100000000000000001", 100000000000000000L);
        goes(0, 2, 2, LEAST, -100000000000000000L);
        goesReal(0, 3, 2, "9007199254740993", 9007199254740992.0);
        goesReal(0, 3, 2, "9007199254740995", 9007199254740996.0);
        goes(2, 1, 2, "-4294967301", -2147483648L);
        goes(3, 0, 2, "-7.9", -7);
        goes(3, 0, 2, "7.9", 7);
        goes(3, 0, 2, "1000000 * 100000000000000", Long.MAX_VALUE);
        goes(3, 0, 2, "-1000000 * 100000000000000", Long.MIN_VALUE);
        goes(3, 1, 2, "2147483648.5", 2147483647);
        goes(3, 1, 2, "-2147483648.5", -2147483648L);
        goes(3, 2, 2, "-1000000 * 100000000000000", -100000000000000000L);
    }

    private static void asTheyAre() {
        House house = new House().with(0, "fn f(a) { mark values.g(none) == none; let x = new[2]; mark values.g(x) == x; mark values.g(&f) == &f; "
            + "mark values.g(&exits.k) == &exits.k; let h = values.h(); return h!(a); }");
        house.with(2, "fn g(a) { return a; } fn h() { return &exits.k; }").with(3, "fn k(a) { return a + 1; }");
        house.answers(0, 0, 4, 5).marks(1, 1, 1, 1).looks(5, 6).looks(6, 0);
    }

    private static void arguments() {
        House house = new House().with(0, "fn f(a) { try { codes.g(1, a, mk(), 4294967296); } catch border x { mark x == none; return 3; } return 4; } fn mk() { mark 2; return 2; }");
        house.with(1, "fn g(a) { mark a; }");
        house.answers(0, 0, 5, 3).marks(2, 1).looks(5, 0);
        // try, statement, mk's call, mark and return, the call, four arguments, the FAILURE, mark, a sign, return
        house.looks(2, 1 + 1 + 3 + 1 + 4 + 1 + 2 + 1);
        house.answers(0, 0, 4294967296L, 3).marks(2, 1).looks(2, 1 + 1 + 3 + 1 + 2 + 1 + 2 + 1);
        house = new House().with(1, "fn f(a) { on { throws.g(a, a); values.g(a); mark 1; } go { mark cell; } mark 2; } fn h(a) { let x = exits.g(a); return cell; }");
        house.with(0, "fn g(a) { mark a; }").with(2, "fn g(a) { mark a; return 5000000000; }").with(3, "fn g(a) { mark a; return 0.5; }");
        house.fails(1, 1, 3, 9).failureAt(0, 1, 9, "let x =", 0, 0, 0, 1).looks(9, 9);
        House.due("the answer isn't turned", house.x.call(1, 0, 3), 0);
        house.marks(3, 3, 9, 2).looks(5, 2);
    }

    private static void answersBack() {
        House house = new House().with(2, "fn f(a) { let x = exits.g(a) else tag(exits.g(a)); return x; } fn h(a) { return exits.g(a); }");
        house.with(3, "fn g(a) { return a / 2; }");
        house.answers(2, 0, 4, 2).answers(2, 0, 3, 9).looks(5, 2).looks(6, 0);
        house.fails(2, 1, 3, 9).failureAt(0, 2, 9, "return exits", 0, 0, 0, 1).failure(1, -1, -1);
        house.x.rule(3, 2, 1);
        house.answers(2, 1, 3, 1);
        house.x.rule(2, 3, 0);
        house.answers(2, 1, -3, -1);
    }

    private static void foreignCells() {
        House house = new House().with(0, "fn f(a) { let x = codes.g(); mark x[0]; x[0] = 9; mark x[0]; x[1] = x; mark x[1] == x; try { x[0] = a; } catch sort y { mark 44; } return codes.h(x); } "
            + "fn k(a) { let x = exits.k(); return x[0]; }");
        house.with(1, "fn g() { let x = new[2]; x[0] = 5; return x; } fn h(x) { return x[0]; }").with(3, "fn k() { let x = new[1]; x[0] = 2.5; return x; }");
        house.answers(0, 0, 7, 7).marks(5, 9, 1);
        house.answers(0, 0, 4294967296L, 9).marks(5, 9, 1, 44);
        house.x.rule(0, 1, 2);
        house.answers(0, 0, 4294967296L, 2147483647).marks(5, 9, 1);
        house.fails(0, 1, 0, 4).failure(0, 0, 4);
        house.x.rule(3, 0, 1);
        house.answers(0, 1, 0, 2);
        house = new House().with(2, "fn f(a) { let x = codes.g(); return x[0] else tag(x[5]); } fn h(a) { let x = codes.g(); x[0] = a; mark 1; }").with(1, "fn g() { let x = new[1]; return x; }");
        house.answersNone(2, 0, 0).answersNone(2, 1, 5).marks(1).fails(2, 1, 5000000000L, 4).marks();
    }

    private static void entries() {
        House house = new House().with(0, "fn f(a) { throw foo a; } fn g(a) { return a / 0; }").with(1, "fn f(a) { let x = throws.f(a); return cell; } fn g(a) { fail a; }")
            .with(2, "fn f(a) { return tag(throws.f(a)); } fn g(a) { return bad foo(a); }").with(3, "fn f(a) { throws.f(a); } fn g(a) { exit foo a; } fn h(a) { codes.g(a); }");
        house.answers(1, 0, 3, 9).looks(6, 1).looks(9, 9).answers(2, 0, 3, 9);
        house.fails(3, 0, 3, 9).failure(0, 3, 9, 10, 2, 0, 1, 0).failure(1, 0, 12, 10, 0, 0, 1, 0).failure(2, -1);
        house.x.entry(0, 1, 12, -77);
        house.x.entry(0, 2, 12, 12);
        house.x.entry(0, 3, 12, 1);
        house.answers(1, 0, 3, -77).looks(9, -77).answers(2, 0, 3, 12).fails(3, 0, 3, 1).failure(0, 3, 1, 10, 1);
        house.x.entry(0, 3, 12, 2);
        house.fails(3, 0, 3, 2);
        house.x.entry(0, 2, 0, 5);
        house.answers(2, 0, 3, 12);
        house.fails(3, 2, 6, 9).failureAt(0, 3, 9, "codes.g(a);", 2, 0, 0, 2).failureAt(1, 1, 6, "fail a;", 0, 0, 0, 1);
        house.x.entry(1, 3, 6, 11);
        house.x.entry(1, 3, 0, 10);
        house.fails(3, 2, 6, 11).fails(3, 2, 7, 10);
    }

    private static void kinds() {
        House house = new House().with(0, "kind bar under foo; kind foo under zero; fn f(a) { throw bar a; } fn g(a) { return a / 0; } fn h(a) { throw own a; }")
            .with(2, "fn f(a) { return tag(throws.f(a)); } fn g(a) { return tag(throws.g(a)); } fn h(a) { return tag(throws.h(a)); }");
        house.answers(2, 0, 1, 9).answers(2, 1, 1, 9).answers(2, 2, 1, 9);
        house.x.entry(0, 2, 10, 2);
        house.answers(2, 0, 1, 2).answers(2, 1, 1, 2).answers(2, 2, 1, 2);
        house.x.entry(0, 2, 11, 3);
        house.answers(2, 0, 1, 3).answers(2, 1, 1, 3).answers(2, 2, 1, 2);
        house.x.entry(0, 2, 1, 4);
        house.answers(2, 0, 1, 4).answers(2, 1, 1, 4).answers(2, 2, 1, 2);
        house.x.entry(0, 2, 13, 5);
        house.answers(2, 0, 1, 5).answers(2, 1, 1, 4);
        house.x.entry(0, 2, 12, 6);
        house.answers(2, 0, 1, 6);
        // of another TONGUE than 0 only the very name has an ENTRY
        house = new House().with(2, "fn f(a) { return bad zero(a); }").with(0, "fn f(a) { values.f(a); }");
        house.x.entry(2, 0, 10, 2);
        house.x.entry(2, 0, 11, 2);
        house.fails(0, 0, 1, 9);
    }

    private static void values() {
        House house = new House().with(0, "fn f(a) { throw foo a; } fn g(a) { throw foo new[2]; } fn h(a) { throw foo &f; }")
            .with(1, "fn f(a) { fail a; }")
            .with(2, "fn f(a) { return throws.f(a); }")
            .with(3, "fn f(a) { open border x { throws.f(a); } then { return x; } } fn g(a) { throws.g(a); } fn h(a) { throws.h(a); } fn k(a) { codes.f(a); }");
        house.answersReal(3, 0, 7, 7.0);
        house.fails(2, 0, 7, 9).failure(0, 2, 9, 10, 2, 0, 1, 0).failure(1, 0, 12, 10, 0, 0, 1, 0);
        house.fails(3, 1, 7, 9).failureAt(0, 3, 9, "throws.g(a);", 2, 0, 2, 1);
        house.fails(3, 2, 7, 9).failureAt(0, 3, 9, "throws.h(a);", 2, 0, 3, 2);
        house.fails(3, 3, 7, 9).failureAt(0, 3, 9, "codes.f(a);", 2, 0, 0, 3).failure(1, 1, 7, 10, 0, 0, 0, 0);
        // a VALUE that isn't turned is none
        house = new House().with(0, "fn f(a) { throw foo 4294967296; }").with(1, "fn f(a) { throws.f(a); return cell; }").with(2, "fn f(a) { return throws.g(a); }");
        house.answers(1, 0, 1, 9);
        house.with(0, "fn g(a) { throw foo 1000000000000000000; }");
        house.fails(2, 0, 7, 9).failure(0, 2, 9, 10, 2, 0, 0, 0).failure(1, 0, 12, 10, 0, 0, 1, 0);
        house.x.rule(0, 2, 2);
        house.fails(2, 0, 7, 9).failure(0, 2, 9, 10, 2, 0, 1, 0);
    }

    private static void chains() {
        House house = new House().with(0, "fn f(a) { mark 1; values.f(a); }").with(2, "fn e() { } fn f(a) { let x = exits.f(a); mark 2; return x; }")
            .with(3, "fn e() { } fn g() { } fn f(a) { mark 3; codes.f(a); }").with(1, "fn f(a) { mark 4; fail a; }");
        house.fails(0, 0, 5, 9).marks(1, Double.doubleToRawLongBits(3), 4, 2).looks(5, 3).looks(6, 3).looks(7, 4);
        house.failureAt(0, 0, 9, "values.f", 2, 0, 0, 0).failureAt(1, 2, 9, "let x", 2, 0, 0, 1).failureAt(2, 3, 9, "codes.f", 2, 0, 0, 2).failureAt(3, 1, 5, "fail a", 0, 0, 0, 0);
        house.failure(4, -1, -1, -1, -1, -1, -1, -1);
        House.due("what 7", house.x.failure(0, 7), -1);
        House.due("what 8", house.x.failure(0, 8), -1);
        House.due("what -1", house.x.failure(0, -1), -1);
        House.due("i -1", house.x.failure(-1, 0), -1);
        House.due("i far", house.x.failure(Integer.MAX_VALUE, 0), -1);
    }
}
