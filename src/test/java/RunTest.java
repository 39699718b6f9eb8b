/** Promises 8 to 12: runs, their answers, STEPS, MARKS and the rest that look tells. */
public final class RunTest {
    public static void main(String[] args) {
        calls();
        answers();
        statements();
        arrays();
        functions();
        tooManyArguments();
        comparisons();
        steps();
        spent();
        frames();
        marks();
        cellStays();
        House.close("RunTest");
    }

    private static void calls() {
        House house = new House();
        for (int t = 0; t < 4; t++) {
            house.with(t, "fn f(a) { return a; } fn g() { return 7; } fn h(a, b) { return b; }");
            House.due("f -1", house.x.call(t, -1, 0), 3);
            House.due("f 3", house.x.call(t, 3, 0), 3);
            House.due("f 40", house.x.call(t, 40, 0), 3);
            House.due("f greatest", house.x.call(t, Integer.MAX_VALUE, 0), 3);
        }
        House.due("TONGUE -1", house.x.call(-1, 0, 0), 3);
        House.due("TONGUE 4", house.x.call(4, 0, 0), 3);
        long[] numbers = {0, 1, -1, Long.MAX_VALUE, Long.MIN_VALUE, 2147483647, 2147483648L, -2147483648L, -2147483649L,
            100000000000000000L, 100000000000000001L, -100000000000000000L, -100000000000000001L, 9007199254740992L,
            9007199254740993L, Long.MAX_VALUE - 1023, Long.MAX_VALUE - 512, 4611686018427387904L, 4611686018427387905L};
        for (long n : numbers) {
            house.answers(0, 0, n, n);
            turned(house, 1, n, n == (int) n, n);
            turned(house, 2, n, Math.abs(n) <= 100000000000000000L && n != Long.MIN_VALUE, n);
            boolean exact = new java.math.BigDecimal((double) n).compareTo(java.math.BigDecimal.valueOf(n)) == 0;
            turned(house, 3, n, exact, Double.doubleToRawLongBits((double) n));
        }
        house.answers(0, 1, 5, 7).answersNone(0, 2, 5);
        house.x.rule(0, 1, 1);
        House.due("always by RULE 0", house.x.call(1, 0, 4294967296L), 4);
        house.answers(0, 1, 5, 7);
        House.due("3 ..", house.x.call(0, 9, 0), 3);
        House.due("4 ..", house.x.call(1, 0, 4294967296L), 4);
        House.due("3 ahead of 4", house.x.call(1, 9, 4294967296L), 3);
        house.looks(0, 0).looks(1, 1).looks(2, 1);
        House.due(".. and nothing happens", house.x.answer(), 7);
    }

    private static void turned(House house, int t, long n, boolean can, long want) {
        if (can) {
            house.answers(t, 0, n, want);
        } else {
            House.due("call " + t + " with " + n, house.x.call(t, 0, n), 4);
        }
    }

    private static void answers() {
        House house = new House();
        for (int t = 0; t < 4; t++) {
            house.with(t, "fn f(a) { } fn g(a) { return new[a]; } fn h(a) { return &g; } fn k(a) { return &exits.h; } "
                + "fn n(a) { return none; } fn z(a) { return 0; }");
            house.answersNone(t, 0, 1).looks(1, 0);
            house.answers(t, 1, 3, 3).looks(1, 2);
            house.answers(t, 1, 0, 0).looks(1, 2);
            house.answers(t, 1, 400, 400).looks(1, 2);
            house.answers(t, 2, 3, 64 * t + 1).looks(1, 3);
            house.answersNone(t, 4, 1).looks(1, 0);
            house.answers(t, 5, 1, 0).looks(1, 1);
        }
        house.answers(0, 3, 0, 64 * 3 + 2).looks(1, 3);
        house.answers(2, 1, 5, 5);
        house.fails(2, 1, 401, 5);
    }

    private static void statements() {
        for (int t = 0; t < 4; t++) {
            House house = new House().with(t, "fn f(a) { let s = 0; while (a) { s = s + a; a = a - 1; } mark s; return s == 10; } "
                + "fn g(a) { if (a < 3) { mark 1; } else { mark 2; } if (a == 3) { return 8; } mark 3; let b = b; mark size(new[2]); } "
                + "fn h(a) { if (none) { } } fn k(a) { while (&f) { } } fn m(a) { mark none; } fn n(a) { if (new[1]) { } else { } }");
            house.x.call(t, 0, 4);
            House.due("mark", house.x.mark(0), t == 3 ? Double.doubleToRawLongBits(10) : 10);
            House.due("true is 1", house.x.answer(), t == 3 ? Double.doubleToRawLongBits(1) : 1);
            house.x.call(t, 0, 5);
            House.due("false is 0", house.x.answer(), 0);
            house.looks(1, 1);
            house.x.call(t, 1, 2);
            house.looks(3, 3).looks(1, 0);
            house.x.call(t, 1, 3);
            house.looks(3, 1).looks(1, 1);
            for (int f = 2; f <= 5; f++) {
                house.fails(t, f, 0, 4);
            }
        }
    }

    private static void arrays() {
        for (int t = 0; t < 4; t++) {
            House house = new House().with(t, "fn f(a) { let x = new[3]; x[0] = a; x[1] = x; x[2] = &f; let y = x[1]; y[0] = y[0] + 1; return x[0]; } "
                + "fn g(a) { let x = new[3]; return x[a]; } fn h(a) { let x = none; return x[a]; } fn k(a) { return a[0]; } "
                + "fn m(a) { let x = new[3]; return x[none]; } fn n(a) { let x = new[3]; x[a] = 5; return x[2]; } "
                + "fn o(a) { let x = none; x[0] = mk(); } fn mk() { mark 1; return 1; } fn p(a) { return size(a); } fn q(a) { return size(none); } "
                + "fn r(a) { return new[none]; } fn s(a) { return new[0 - 1]; } fn u(a) { let x = new[2]; let y = x; let z = new[2]; return (x == y) * 10 + (x == z); }");
            House.due("cells", house.x.call(t, 0, 4), 0);
            House.due("the same array", house.x.answer(), t == 3 ? Double.doubleToRawLongBits(5) : 5);
            house.answersNone(t, 1, 2).fails(t, 1, 3, 2).fails(t, 1, -1, 2).fails(t, 2, 0, 3).fails(t, 3, 0, 4).fails(t, 4, 0, 4);
            house.fails(t, 5, 3, 2).fails(t, 5, -1, 2).fails(t, 6, 0, 3).looks(3, 1);
            house.fails(t, 8, 0, 4).fails(t, 9, 0, 3).fails(t, 10, 0, 4).fails(t, 11, 0, 5);
            House.due("x == y", house.x.call(t, 12, 0), 0);
            House.due("same or not", house.x.answer(), t == 3 ? Double.doubleToRawLongBits(10) : 10);
        }
        House house = new House().with(3, "fn f(a) { let x = new[3]; return x[0.5]; } fn g(a) { return new[1.5]; } fn h(a) { let x = new[3]; x[-0] = 5; return x[0]; } fn k(a) { return new[-0]; }");
        house.fails(3, 0, 0, 2).fails(3, 1, 0, 5).answersReal(3, 2, 0, 5.0).answers(3, 3, 0, 0).looks(1, 2);
        // 49 arrays of 401 cells leave 351 of 20,000
        house = new House().with(0, "fn f(a) { let i = 49; while (i) { new[400]; i = i - 1; } new[a]; mark 1; } fn g(a) { let i = 0; while (i < a) { new[0]; i = i + 1; } return i; }");
        house.answersNone(0, 0, 350).fails(0, 0, 351, 5).answersNone(0, 0, 350).answers(0, 1, 800, 800);
    }

    private static void functions() {
        for (int t = 0; t < 4; t++) {
            House house = new House().with(t, "fn f(a, b) { mark b == none; return a; } fn g(a) { let h = &f; return h!(a) + h!(a, 1, mk()); } "
                + "fn mk() { mark 7; return 7; } fn k(a) { let h = none; return h!(mk()); } fn l(a) { return a!(mk()); } fn m(a) { return x(mk()); } "
                + "fn n(a) { return &x; } fn o(a) { let h = &f; return (h == &f) * 10 + (h == &g); } fn p(a) { return codes.x(mk()); }");
            House.due("call", house.x.call(t, 1, 3), 0);
            House.due("answer", house.x.answer(), t == 3 ? Double.doubleToRawLongBits(6) : 6);
            house.looks(3, 3);
            house.fails(t, 3, 1, 3).looks(3, 1).fails(t, 4, 1, 4).looks(3, 1).fails(t, 5, 1, 3).looks(3, 1).fails(t, 6, 1, 3);
            House.due("call", house.x.call(t, 7, 3), 0);
            House.due("the same function", house.x.answer(), t == 3 ? Double.doubleToRawLongBits(10) : 10);
            house.fails(t, 8, 1, 3).looks(3, 1).looks(5, 0);
        }
    }

    /** What is too many is let go; it is no variable's VALUE. */
    private static void tooManyArguments() {
        for (int t = 0; t < 4; t++) {
            House house = new House().with(t, "fn f() { if (0) { let b = 1; } return b; } fn g(a) { return h(1, 2, mk()); } fn h(a) { if (0) { let b = 1; let c = 1; } mark b == none; mark c == none; return b; } "
                + "fn mk() { mark 7; return 7; } fn k(a) { let x = &h; return x!(1, 2, 3, 4, 5, 6, 7, 8); } fn l(a) { return " + (t == 0 ? "codes" : "throws") + ".h(1, 2, 3); }");
            int other = t == 0 ? 1 : 0;
            house.with(other, other == t ? "" : "fn h(a) { if (0) { let b = 1; } mark b == none; return b; }");
            house.answersNone(t, 0, 5).answersNone(t, 1, 5).looks(3, 3).answersNone(t, 4, 5).looks(3, 2).answersNone(t, 5, 5).marks(1);
        }
    }

    private static void comparisons() {
        String[] signs = {"<", "<=", ">", ">=", "==", "!="};
        int[][] due = {{1, 0, 0}, {1, 1, 0}, {0, 0, 1}, {0, 1, 1}, {0, 1, 0}, {1, 0, 1}};
        for (int t = 0; t < 4; t++) {
            for (int k = 0; k < signs.length; k++) {
                House house = new House().with(t, "fn f(a) { return a " + signs[k] + " 5; } fn g(a) { return -a " + signs[k] + " -5; } fn h(a) { return a " + signs[k] + " none; }");
                for (int n = 0; n < 3; n++) {
                    House.due(n + 4 + signs[k] + 5, house.x.call(t, 0, n + 4), 0);
                    House.due(n + 4 + signs[k] + 5, house.x.answer(), t == 3 ? Double.doubleToRawLongBits(due[k][n]) : due[k][n]);
                    House.due("less", house.x.call(t, 1, n + 4), 0);
                    House.due("less", house.x.answer(), t == 3 ? Double.doubleToRawLongBits(due[k][2 - n]) : due[k][2 - n]);
                }
                if (k < 4) {
                    house.fails(t, 2, 1, 4);
                } else {
                    House.due("none", house.x.call(t, 2, 1), 0);
                    House.due("none", house.x.answer(), t == 3 ? Double.doubleToRawLongBits(k - 4) : k - 4);
                }
            }
        }
    }

    private static int stepsOf(int t, String body) {
        House house = new House();
        house.with(t, "fn f(a) { " + body + " } fn g(a) { } fn h(a) { return a; }");
        for (int u = 0; u < 4; u++) {
            if (u != t) {
                house.with(u, "fn g(a) { } fn k(a) { let x = new[2]; x[0] = 1; return x; }");
            }
        }
        house.x.call(t, 0, 3);
        House.due("in the house's life", house.x.look(8), house.x.look(2));
        return house.x.look(2);
    }

    private static void steps() {
        House.due("nothing", stepsOf(0, ""), 0);
        House.due("a let", stepsOf(0, "let b = 1;"), 1);
        House.due("a mark", stepsOf(0, "mark 1;"), 1);
        House.due("signs", stepsOf(0, "a = 1 + 2 * 3 - -4;"), 1 + 4);
        House.due("comparisons", stepsOf(0, "a = (1 < 2) == (none != none);"), 1 + 3);
        House.due("an if", stepsOf(0, "if (1) { mark 1; mark 1; } else { mark 1; }"), 3);
        House.due("an if not", stepsOf(0, "if (0) { mark 1; mark 1; } else { mark 1; }"), 2);
        House.due("a while", stepsOf(0, "while (a) { a = a - 1; }"), 1 + 3 * 3);
        House.due("a while not", stepsOf(0, "while (0) { a = a - 1; }"), 1);
        House.due("a call", stepsOf(0, "g(a, a);"), 2);
        House.due("a call and a return", stepsOf(0, "h(a);"), 3);
        House.due("held", stepsOf(0, "let b = &g; b!(1);"), 3);
        House.due("over a border, each argument", stepsOf(0, "codes.g(a, none, a);"), 2 + 3);
        House.due("new", stepsOf(0, "new[2];"), 2);
        House.due("size and own cells", stepsOf(0, "let x = new[2]; x[0] = size(x); x[1] = x[0];"), 4);
        House.due("a foreign cell", stepsOf(0, "let x = codes.k(); a = x[0];"), 2 + 4 + 2);
        House.due("a foreign cell that isn't", stepsOf(0, "let x = codes.k(); a = x[2];"), 2 + 4 + 1 + 1);
        House.due("into a foreign cell", stepsOf(0, "let x = codes.k(); x[1] = 5;"), 2 + 4 + 1);
        House.due("what fails", stepsOf(0, "1 / 0;"), 3);
        House.due("SORT", stepsOf(0, "1 + none;"), 3);
        House.due("new of none", stepsOf(0, "new[none];"), 3);
        House.due("no such function", stepsOf(0, "x(1);"), 3);
        House.due("no such function itself", stepsOf(0, "&x;"), 2);
        House.due("throw and catch", stepsOf(0, "try { throw foo 1; } catch foo x { mark x; } finally { mark 1; }"), 5);
        House.due("no such function over a border", stepsOf(0, "try { codes.g(1); values.f(1); } catch any x { }"), 4 + 3);
        House.due("fail", stepsOf(1, "on { fail 3; } go { mark 1; }"), 4);
        House.due("fail 0", stepsOf(1, "on { fail 0; } go { mark 1; }"), 2);
        House.due("bad", stepsOf(2, "bad foo(1);"), 2);
        House.due("a part that FAILS", stepsOf(2, "1 + bad foo(1) * g(2);"), 2);
        House.due("else", stepsOf(2, "bad foo(1) else 1 + 2;"), 3);
        House.due("with", stepsOf(2, "with { mark 1; } end { mark 2; }"), 3);
        House.due("exit", stepsOf(3, "open foo x { exit foo 1; } then { mark x; }"), 4);
        House.due("LOST", stepsOf(3, "open lost x { exit foo 1; } then { mark 1; }"), 4);
        House.due("clean", stepsOf(3, "clean { mark 1; } do { mark 2; }"), 3);
    }

    private static void spent() {
        House house = new House().with(0, "fn f(a) { try { while (1) { mark a; } } finally { mark 99; } } "
            + "fn g(a) { while (a) { a = a - 1; } } fn h(a) { mark 1; }");
        House.due("SPENT", house.x.call(0, 0, 5), 2);
        house.looks(0, 2).looks(1, 0).looks(2, 5000).looks(8, 5000).looks(7, 1);
        // try, then each turn of the while two STEPS
        house.looks(3, 2499);
        House.due("nothing finishes", house.x.mark(199), 5);
        House.due("only 200 are kept", house.x.mark(200), 0);
        House.due("no FAILURE", house.x.failure(0, 0), -1);
        House.due("no answer", house.x.answer(), 0);
        // 1 + 3 n STEPS: while, its question, a sign, a statement
        house.answersNone(0, 1, 1666).looks(2, 4999).looks(8, 9999);
        House.due("one more turn", house.x.call(0, 1, 1667), 2);
        house.looks(2, 5000).looks(8, 14999);
        for (int i = 0; i < 13; i++) {
            House.due("again", house.x.call(0, 0, 5), 2);
        }
        house.looks(8, 79999);
        house.answersNone(0, 2, 0).looks(2, 1).looks(8, 80000);
        House.due("the 80,001st in life", house.x.call(0, 2, 0), 2);
        house.looks(2, 0).looks(3, 0).looks(8, 80000).looks(7, 1);
        house.with(1, "fn f(a) { }").answersNone(1, 0, 0);
    }

    private static void frames() {
        for (int t = 0; t < 4; t++) {
            House house = new House().with(t, "fn f(a) { if (a) { return f(a - 1); } return 5; }");
            House.due("24 FRAMES", house.x.call(t, 0, 23), 0);
            house.looks(7, 24);
            House.due("three FRAMES", house.x.call(t, 0, 2), 0);
            house.looks(7, 3);
            if (t != 1) {
                house.fails(t, 0, 24, 6).looks(7, 24);
                House.due("in the caller", house.x.failure(0, 2), 19);
            } else {
                House.due("in CODES the call is none for the caller", house.x.call(t, 0, 24), 0);
                house.looks(1, 0).looks(7, 24).looks(9, 6);
            }
        }
        House house = new House().with(0, "fn f(a) { if (a) { return values.f(a - 1); } return 5; }")
            .with(2, "fn f(a) { if (a) { return throws.f(a - 1); } return 5; }");
        house.answers(0, 0, 23, 5).looks(7, 24).looks(5, 23);
        house.fails(0, 0, 24, 9).looks(7, 24).looks(5, 23).looks(6, 23);
        House.due("DEEP in VALUES is where it came from", house.x.failure(23, 1), 6);
    }

    private static void marks() {
        House house = new House().with(0, "fn f(a) { mark a; codes.f(3); mark 4; }").with(1, "fn f(a) { mark a; exits.f(2); }")
            .with(3, "fn f(a) { mark a / 4; mark -0; values.f(a); }").with(2, "fn f(a) { mark a; }");
        house.answersNone(0, 0, -7).marks(-7, 3, Double.doubleToRawLongBits(0.5), Long.MIN_VALUE, 2, 4);
        int[] tongues = {0, 1, 3, 3, 2, 0};
        for (int i = 0; i < 6; i++) {
            House.due("markTongue " + i, house.x.markTongue(i), tongues[i]);
        }
        House.due("markTongue -1", house.x.markTongue(-1), -1);
        House.due("mark -1", house.x.mark(-1), 0);
        house = new House().with(3, "fn f(a) { while (a) { mark a; a = a - 1; } }");
        house.answersNone(3, 0, 201).looks(3, 201);
        House.due("the last that is kept", house.x.mark(199), Double.doubleToRawLongBits(2));
        House.due("its tongue", house.x.markTongue(199), 3);
        House.due("not kept", house.x.mark(200), 0);
        House.due("nor its tongue", house.x.markTongue(200), -1);
    }

    private static void cellStays() {
        House house = new House().with(1, "fn f(a) { fail a; return cell; } fn g(a) { return cell; }").with(0, "fn f(a) { return codes.g(); }");
        house.answers(1, 1, 0, 0).looks(9, 0).fails(1, 0, -5, -5).looks(9, -5).answers(1, 1, 0, -5).answers(0, 0, 0, -5).looks(9, -5);
        house.answers(1, 0, 0, -5).looks(9, -5);
        house.with(1, "fn g(a) { return cell; }").answers(1, 0, 0, -5);
    }
}
