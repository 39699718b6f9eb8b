/** Terms 3 sentence by sentence, up to FAILING: calls, STEPS, FRAMES, signs, arrays, MARKS. */
public final class TermsThreeTest {
    public static void main(String[] args) {
        variablesAreNone();
        argumentsThatLack();
        argumentsTooMany();
        partsFromTheLeft();
        partsWithinParts();
        callsOfEachTongue();
        callsThatFindNone();
        heldCallsThatFindNone();
        stepsOfStatements();
        stepsOfWhiles();
        stepsOfCalls();
        stepsOfSigns();
        stepsOfNew();
        stepsOfForeignCells();
        stepsOfArguments();
        stepsOfFailures();
        spentAtTheFiveThousandFirst();
        spentInTheHousesLife();
        spentFinishesNothing();
        framesOfOneTongue();
        framesOverAllTongues();
        deepIsInTheCaller();
        signsOfNumbers();
        sameOrNot();
        questions();
        newOfNumbers();
        twentyThousandCells();
        sizes();
        eachArrayItsOwn();
        cellsThatAreNot();
        cellsAreAskedInOrder();
        cellsOfAnotherTongue();
        marksOfNumbers();
        twoHundredMarks();
        returnsAndEnds();
        House.close("TermsThreeTest");
    }

    private static int other(int t) {
        return (t + 1) % 4;
    }

    private static void variablesAreNone() {
        House.sentence("A function's variables are none, but its parameters");
        for (int t = 0; t < 4; t++) {
            House house = new House().with(t, "fn f(a) { if (0) { let b = 1; } mark a == 5; mark b == none; b = 7; return b; } fn g(a) { f(5); return f(5); }");
            house.answersWhole(t, 0, 5, 7).marksOf(t, 1, 1);
            // nothing is left of the call ahead
            house.answersWhole(t, 1, 5, 7).marksOf(t, 1, 1, 1, 1);
        }
        new House().with(0, "fn f(a) { if (0) { try { } catch any x { } } return x; }").answersNone(0, 0, 5);
        new House().with(3, "fn f(a) { if (0) { open any x { } then { } } return x; }").answersNone(3, 0, 5);
    }

    private static void argumentsThatLack() {
        House.sentence("arguments that lack: none");
        for (int t = 0; t < 4; t++) {
            House house = new House().with(t, "fn f(a, b, c, d) { mark a == none; mark b == none; mark c == none; mark d == none; } fn g(a) { f(); f(1); let h = &f; h!(1, 2, 3); " + House.TONGUES[other(t)] + ".f(); " + House.TONGUES[other(t)] + ".f(1); }")
                .with(other(t), "fn f(a, b) { if (a == none) { return 1 / 0; } if (b != none) { return 1 / 0; } } ");
            house.answersNone(t, 0, 3).marksOf(t, 0, 1, 1, 1);
            house.x.call(t, 1, 3);
            house.looks(6, 1);
            long[] want = {1, 1, 1, 1, 0, 1, 1, 1, 0, 0, 0, 1};
            for (int i = 0; i < want.length; i++) {
                House.due("mark " + i, house.x.mark(i), House.told(t, want[i]));
            }
        }
    }

    private static void argumentsTooMany() {
        House.sentence("what is too many is worked out and let go");
        for (int t = 0; t < 4; t++) {
            House house = new House().with(t, "fn n() { if (0) { let b = 1; } return b; } fn one(a) { if (0) { let b = 1; } mark a; return b; } fn mk(a) { mark a; return a; } "
                + "fn f(a) { return n(mk(1), mk(2)); } fn g(a) { return one(mk(3), mk(4), mk(5), mk(6), mk(7), mk(8), mk(9), mk(10)); } fn h(a) { let h = &one; return h!(mk(1), mk(2)); } fn k(a) { return " + House.TONGUES[other(t)] + ".one(mk(1), mk(2)); }")
                .with(other(t), "fn one(a) { if (0) { let b = 1; } return b; }");
            house.answersNone(t, 0, 5).answersNone(t, 3, 5).marksOf(t, 1, 2);
            house.answersNone(t, 4, 5).marksOf(t, 3, 4, 5, 6, 7, 8, 9, 10, 3).answersNone(t, 5, 5).marksOf(t, 1, 2, 1).answersNone(t, 6, 5).marksOf(t, 1, 2);
        }
    }

    private static void partsFromTheLeft() {
        House.sentence("Parts are worked out from the left");
        for (int t = 0; t < 4; t++) {
            House house = new House().with(t, "fn m(a) { mark a; return a; } fn f(a) { m(1) - m(2) * m(3) + m(4); } fn g(a) { n(m(1), m(2), m(3)); } fn n(a) { } fn h(a) { m(1) < m(2); m(3) == m(4); } fn k(a) { let x = new[9]; x[m(5)] = m(6); } "
                + "fn l(a) { let x = &n; x!(m(1), m(2)); } fn o(a) { " + House.TONGUES[other(t)] + ".n(m(1), m(2)); } fn p(a) { return 20 - 5 - 3; } fn q(a) { return 100 / 5 / 2 * 3 % 7; }").with(other(t), "fn n(a) { }");
            house.answersNone(t, 1, 0).marksOf(t, 1, 2, 3, 4).answersNone(t, 2, 0).marksOf(t, 1, 2, 3).answersNone(t, 4, 0).marksOf(t, 1, 2, 3, 4).answersNone(t, 5, 0).marksOf(t, 5, 6);
            house.answersNone(t, 6, 0).marksOf(t, 1, 2).answersNone(t, 7, 0).marksOf(t, 1, 2).answersWhole(t, 8, 0, 12).answersWhole(t, 9, 0, 2);
        }
    }

    private static void partsWithinParts() {
        House.sentence("Parts are worked out from the left: none of them touches those ahead of it");
        for (int t = 0; t < 4; t++) {
            String away = House.TONGUES[other(t)];
            String[] parts = {"2", "1 + 1", "4 - 2", "1 * 2", "6 / 3", "8 % 6", "(1 < 2) + 1", "(2 == 2) + 1", "1 + (1 != 2)", "-(0 - 2)", "size(new[2])", "x[1]", "h(2)", "p!(2)", away + ".h(2)", "q!(2)", "y[0]", "size(y)", "h(1, h(5), 6) + 1", "(((2)))"};
            for (String part : parts) {
                House house = new House().with(t, "fn h(a) { return a; } fn g(a, b, c, d) { return a * 1000 + b * 100 + c * 10 + d; } fn f(a) { let x = new[2]; x[1] = 2; let p = &h; let q = &" + away + ".h; let y = " + away + ".y(); return g(3, " + part + ", " + part + ", 4); } "
                    + "fn k(a) { let x = new[2]; x[1] = 2; let p = &h; let q = &" + away + ".h; let y = " + away + ".y(); return 7 + (" + part + ") * 10 - (3 - (" + part + ")); }").with(other(t), "fn h(a) { return a; } fn y() { let y = new[2]; y[0] = 2; return y; }");
                house.answersWhole(t, 2, 0, 3224).answersWhole(t, 3, 0, 26);
            }
            for (String one : new String[] {"1 < 2", "2 <= 2", "2 > 1", "2 >= 2", "2 == 2", "1 != 2"}) {
                new House().with(t, "fn g(a, b, c) { return a * 100 + b * 10 + c; } fn f(a) { return g(3, " + one + ", 4); } fn h(a) { return 20 - (" + one + "); }").answersWhole(t, 1, 0, 314).answersWhole(t, 2, 0, 19);
            }
        }
    }

    private static void callsOfEachTongue() {
        House.sentence("NAME ( ) calls the function of this TONGUE, T . that of T, ! the function that the variable is; & is that function");
        House house = new House();
        for (int t = 0; t < 4; t++) {
            StringBuilder text = new StringBuilder("fn e() { } fn f(a) { return a + 1" + t + "; } fn own(a) { return f(a) * 1000 + held(&f, a); } fn held(p, a) { return p!(a); } ");
            for (int u = 0; u < 4; u++) {
                text.append("fn g").append(u).append("(a) { let p = &").append(House.TONGUES[u]).append(".f; return ").append(House.TONGUES[u]).append(".f(a) * 1000 + p!(a); } fn h").append(u).append("(a) { return &").append(House.TONGUES[u]).append(".f; } ");
            }
            house.with(t, text.toString());
        }
        for (int t = 0; t < 4; t++) {
            house.answersWhole(t, 2, 20, (30 + t) * 1001);
            for (int u = 0; u < 4; u++) {
                house.answersWhole(t, 4 + 2 * u, 20, (30 + u) * 1001).looks(5, t == u ? 0 : 2).answers(t, 5 + 2 * u, 20, 64 * u + 1).looks(1, 3);
            }
        }
    }

    private static void callsThatFindNone() {
        House.sentence("The statement or call that finds none: NOTHING");
        for (int t = 0; t < 4; t++) {
            for (int u = 0; u < 4; u++) {
                House house = new House().with(t, "fn f(a) { return " + House.TONGUES[u] + ".no(mk()); } fn g(a) { return &" + House.TONGUES[u] + ".no; } fn h(a) { return no(mk()); } fn k(a) { return &no; } fn mk() { mark 1; }");
                if (u != t) {
                    house.with(u, "fn no1() { } fn n() { } fn mk() { }");
                }
                house.fails(t, 0, 0, 3).marksOf(t, 1).looks(5, 0).failure(0, t, 3, 10, 0, 0, 0, 0);
                house.fails(t, 1, 0, 3).failure(1, -1).fails(t, 2, 0, 3).marksOf(t, 1).fails(t, 3, 0, 3);
            }
        }
    }

    private static void heldCallsThatFindNone() {
        House.sentence("(by ! also of none; another VALUE: SORT)");
        for (int t = 0; t < 4; t++) {
            House house = new House().with(t, "fn f(a) { let x = none; return x!(mk()); } fn g(a) { return a!(mk()); } fn h(a) { let x = new[1]; return x!(mk()); } fn k(a) { let x = &mk; return x!(); } fn mk() { mark 1; return 3; }");
            house.fails(t, 0, 0, 3).marksOf(t, 1).fails(t, 1, 0, 4).marksOf(t, 1).fails(t, 1, 7, 4).fails(t, 2, 0, 4).marksOf(t, 1).answersWhole(t, 3, 0, 3);
        }
    }

    /** The STEPS that statements spend in TONGUE t; the other TONGUES have g, k (an array) and b (that fails). */
    private static int steps(int t, String statements) {
        House house = house(t, "fn f(a) { " + statements + " }");
        house.x.call(t, 0, 3);
        House.due("in the house's life", house.x.look(8), house.x.look(2));
        return house.x.look(2);
    }

    private static House house(int t, String f) {
        House house = new House().with(t, f + " fn g(a) { } fn h(a) { return a; }");
        for (int u = 0; u < 4; u++) {
            if (u != t) {
                house.with(u, "fn g(a) { } fn k() { let x = new[2]; x[0] = 1; return x; } fn b() { return 1 / 0; }");
            }
        }
        return house;
    }

    private static void stepsOfStatements() {
        House.sentence("STEPS: each statement as it begins");
        for (int t = 0; t < 4; t++) {
            House.due("nothing", steps(t, ""), 0);
            String[] one = {"let b = 1;", "a = 1;", "a;", "1;", "none;", "(((1)));", "&g;", "mark 1;", "return 1;", "return none;", "if (1) { }", "if (0) { } else { }", "if (0) { mark 1; mark 2; }", "while (0) { mark 1; }"};
            for (String statement : one) {
                House.due(statement, steps(t, statement), 1);
                House.due(statement, steps(t, statement + " mark 1;"), statement.startsWith("return") ? 1 : 2);
            }
            House.due("those within", steps(t, "if (1) { mark 1; mark 2; } else { mark 3; }"), 3);
            House.due("size", steps(t, "let x = new[2]; size(x);"), 3);
            House.due("own cells", steps(t, "let x = new[2]; x[0]; x[1] = x[0];"), 4);
        }
        House.due("try", steps(0, "try { mark 1; } catch any x { mark 2; } finally { mark 3; mark 4; }"), 4);
        House.due("on", steps(1, "on { mark 1; } go { mark 2; mark 3; }"), 2);
        House.due("fail 0", steps(1, "fail 0;"), 1);
        House.due("cell", steps(1, "cell;"), 1);
        House.due("with", steps(2, "with { mark 1; } end { mark 2; mark 3; }"), 4);
        House.due("tag", steps(2, "tag(1);"), 1);
        House.due("open", steps(3, "open any x { mark 1; } then { mark 2; mark 3; }"), 2);
        House.due("clean", steps(3, "clean { mark 1; } do { mark 2; mark 3; }"), 4);
    }

    private static void stepsOfWhiles() {
        House.sentence("(a while again ahead of each question but the first)");
        for (int t = 0; t < 4; t++) {
            House.due("no turn", steps(t, "while (0) { }"), 1);
            House.due("one turn", steps(t, "while (a) { a = 0; }"), 3);
            House.due("three turns", steps(t, "while (a) { a = a - 1; }"), 1 + 3 * 3);
            House.due("left in its first turn", steps(t, "while (a) { return 1; }"), 2);
            House.due("one within another", steps(t, "while (a) { a = a - 1; let b = 1; while (b) { b = 0; } }"), 1 + 3 * (2 + 1 + 3 + 1));
        }
    }

    private static void stepsOfCalls() {
        House.sentence("each call");
        for (int t = 0; t < 4; t++) {
            House.due("a call", steps(t, "g();"), 2);
            House.due("with arguments", steps(t, "g(1, 2, 3);"), 2);
            House.due("held", steps(t, "let b = &g; b!(1);"), 3);
            House.due("two", steps(t, "h(h(1));"), 1 + 2 + 2);
            House.due("over a border", steps(t, House.TONGUES[other(t)] + ".g();"), 2);
            House.due("one that finds none", steps(t, "no();"), 3);
            House.due("none, held", steps(t, "let b = none; b!();"), 4);
            House.due("none as a statement", steps(t, "&no;"), 2);
        }
    }

    private static void stepsOfSigns() {
        House.sentence("each sign that is worked out (of two parts, - ahead)");
        for (int t = 0; t < 4; t++) {
            for (String sign : new String[] {"+", "-", "*", "/", "%", "==", "!=", "<", "<=", ">", ">="}) {
                House.due(sign, steps(t, "6 " + sign + " 2;"), 2);
            }
            House.due("- ahead", steps(t, "-1;"), 2);
            House.due("two ahead", steps(t, "--1;"), 3);
            House.due("seven", steps(t, "1 + 2 * 3 - -4 < (5 / 5 == none);"), 1 + 7);
        }
        House.due("one whose part FAILS isn't", steps(2, "bad foo(1) + 1; 1 * bad foo(1); -bad foo(1); bad foo(1) == 1;"), 4 + 4);
    }

    private static void stepsOfNew() {
        House.sentence("each new [ ] (behind its n)");
        for (int t = 0; t < 4; t++) {
            House.due("new", steps(t, "new[2];"), 2);
            House.due("its n first", steps(t, "new[1 + 1];"), 3);
            House.due("one of the wrong SIZE", steps(t, "new[401];"), 3);
            House.due("one of none", steps(t, "new[none];"), 3);
        }
        // n fails, and there is no new behind it
        House.due("n fails", steps(0, "new[1 / 0];"), 3);
        House.due("n FAILS", steps(2, "new[bad foo(1)];"), 2);
    }

    private static void stepsOfForeignCells() {
        House.sentence("each x [ i ] that is worked out of an array of another TONGUE (that has such a cell)");
        for (int t = 0; t < 4; t++) {
            // let, call, and k's let, new, put and return
            String made = "let x = " + House.TONGUES[other(t)] + ".k(); ";
            House.due("made", steps(t, made), 6);
            House.due("a cell", steps(t, made + "x[0];"), 8);
            House.due("the last, of none", steps(t, made + "x[1];"), 8);
            House.due("no such cell", steps(t, made + "x[2];"), 6 + 1 + 1);
            House.due("no such cell, either", steps(t, made + "x[-1];"), 6 + 2 + 1);
            House.due("no index", steps(t, made + "x[none];"), 6 + 1 + 1);
            House.due("what is put there", steps(t, made + "x[0] = 1;"), 7);
            House.due("its size", steps(t, made + "size(x);"), 7);
        }
        // one that isn't turned is worked out, too
        new House().with(1, "fn f(a) { let x = throws.k(); x[0]; }").with(0, "fn k() { let x = new[1]; x[0] = 2147483648; return x; }").fails(1, 0, 0, 4).looks(2, 6 + 1 + 1 + 1);
    }

    private static void stepsOfArguments() {
        House.sentence("each argument as it goes over a border");
        for (int t = 0; t < 4; t++) {
            for (int n = 0; n <= 8; n++) {
                String arguments = "1,2,3,4,5,6,7,8".substring(0, Math.max(2 * n - 1, 0));
                House.due(n + " over a border", steps(t, House.TONGUES[other(t)] + ".g(" + arguments + ");"), 2 + n);
                House.due(n + " held, over a border", steps(t, "let b = &" + House.TONGUES[other(t)] + ".g; b!(" + arguments + ");"), 3 + n);
                House.due(n + " at home", steps(t, House.TONGUES[t] + ".g(" + arguments + ");"), 2);
            }
            House.due("none goes, too", steps(t, House.TONGUES[other(t)] + ".g(none, new[1], &g);"), 3 + 3);
        }
    }

    private static void stepsOfFailures() {
        House.sentence("each FAILURE that arises or is turned");
        for (int t = 0; t < 4; t++) {
            House.due("ZERO", steps(t, "1 / 0;"), 3);
            House.due("SORT", steps(t, "size(1);"), 2);
            House.due("INDEX", steps(t, "let x = new[1]; x[1];"), 4);
            House.due("of a question", steps(t, "if (none) { }"), 2);
            House.due("of a mark", steps(t, "mark none;"), 2);
            House.due("of a cell's =", steps(t, "let x = none; x[0] = 1;"), 3);
            // statement, call, return, sign, FAILURE, and one more that is turned
            House.due("turned", steps(t, House.TONGUES[other(t)] + ".b();"), 6);
        }
        House.due("throw", steps(0, "throw foo 1;"), 2);
        // two calls, three statements, one FAILURE
        new House().with(0, "fn f(a) { g(); } fn g() { h(); } fn h() { throw foo 1; }").fails(0, 0, 0, 12).looks(2, 6);
        House.due("fail", steps(1, "fail 3;"), 2);
        House.due("bad", steps(2, "bad foo(1);"), 2);
        House.due("what FAILS goes on", steps(2, "let x = bad foo(1); x; x; h(x);"), 5);
        House.due("exit", steps(3, "open foo x { exit foo 1; } then { }"), 3);
        House.due("LOST", steps(3, "exit foo 1;"), 2);
    }

    /** So many STEPS, then the rest. */
    private static String spending(int steps, String rest) {
        int turns = (steps - 2) / 3;
        return "fn f(a) { let n = " + turns + "; while (n) { n = n - 1; } " + "0; ".repeat(steps - 2 - 3 * turns) + rest + " }";
    }

    /** The rest spends some STEPS, and its last one is asked to be the 5,000th and the 5,001st of the run. */
    private static void lastStep(int t, String rest, int own, int outcome) {
        for (int ahead = 4999 - own; ahead <= 5000 - own; ahead++) {
            House house = house(t, spending(ahead, rest));
            House.due("outcome of " + ahead + " and " + rest, house.x.call(t, 0, 3), outcome);
            house.looks(2, ahead + own).looks(8, ahead + own);
        }
        house(t, spending(5001 - own, rest)).isSpent(t, 0, 3).looks(2, 5000).looks(8, 5000);
    }

    private static void spentAtTheFiveThousandFirst() {
        House.sentence("The 5,001st of a run .. SPENT (it isn't counted)");
        for (int t = 0; t < 4; t++) {
            int failed = t == 2 ? 0 : 1;
            String away = House.TONGUES[other(t)];
            lastStep(t, "mark 1;", 1, 0);
            lastStep(t, "return 1;", 1, 0);
            lastStep(t, "if (0) { }", 1, 0);
            lastStep(t, "let b = 1; while (b) { b = 0; }", 4, 0);
            lastStep(t, "g();", 2, 0);
            lastStep(t, "1 + 2;", 2, 0);
            lastStep(t, "1 == none;", 2, 0);
            lastStep(t, "-1;", 2, 0);
            lastStep(t, "new[1];", 2, 0);
            lastStep(t, "let x = " + away + ".k(); x[0];", 8, 0);
            lastStep(t, away + ".g(1, 2);", 4, 0);
            lastStep(t, "1 / 0;", 3, failed);
            lastStep(t, "&no;", 2, failed);
            lastStep(t, "mark none;", 2, 1);
            lastStep(t, "let x = none; x[0] = 1;", 3, 1);
            lastStep(t, away + ".b();", 6, t == 2 || t == 1 ? 0 : 1);
        }
        // an argument that isn't counted any more calls nothing
        for (int t = 0; t < 4; t++) {
            String away = House.TONGUES[other(t)];
            house(t, spending(4998, away + ".g(1);")).isSpent(t, 0, 3).looks(2, 5000).looks(5, 0).looks(7, 1);
            house(t, spending(4997, "let p = &" + away + ".g; p!(1);")).isSpent(t, 0, 3).looks(2, 5000).looks(5, 0).looks(7, 1);
            house(t, spending(4999, "g();")).isSpent(t, 0, 3).looks(7, 1);
        }
        lastStep(0, "throw foo 1;", 2, 1);
        lastStep(1, "fail 1;", 2, 1);
        lastStep(2, "return bad foo(1);", 2, 1);
        lastStep(3, "exit foo 1;", 2, 1);
        lastStep(3, "open foo x { exit foo 1; } then { }", 3, 0);
    }

    private static void spentInTheHousesLife() {
        House.sentence("or the 80,001st in the house's life: SPENT (it isn't counted)");
        for (int last = 3; last <= 4; last++) {
            House house = new House().with(0, "fn f(a) { while (1) { } } fn g(a) { while (a) { a = a - 1; } } fn h(a) { } fn k(a) { mark 1; }").with(1, "fn f(a) { throws.k(); } fn g(a) { }");
            for (int i = 1; i <= 15; i++) {
                house.isSpent(0, 0, 0).looks(2, 5000).looks(8, 5000 * i);
            }
            // g has 1 + 3 a
            house.answersNone(0, 1, 1663).looks(2, 4990).looks(8, 79990);
            if (last == 3) {
                house.answersNone(0, 1, 3).looks(2, 10).looks(8, 80000);
            } else {
                house.isSpent(0, 1, 4).looks(2, 10).looks(8, 80000);
            }
            house.isSpent(0, 3, 0).looks(2, 0).looks(3, 0).looks(8, 80000).looks(7, 1);
            house.isSpent(1, 0, 0).looks(2, 0).looks(5, 0).looks(8, 80000);
            // what has no STEP goes on
            house.answersNone(0, 2, 0).looks(2, 0).answersNone(1, 1, 0).looks(8, 80000);
        }
    }

    private static void spentFinishesNothing() {
        House.sentence("SPENT: the run ends at once, nothing finishes");
        new House().with(0, "fn f(a) { try { try { while (1) { } } catch any x { mark 1; } finally { mark 2; } } finally { mark 3; } }").isSpent(0, 0, 0).marks().looks(2, 5000);
        new House().with(1, "fn f(a) { on { while (1) { } } go { mark 1; } }").isSpent(1, 0, 0).marks().looks(9, 0);
        new House().with(2, "fn f(a) { with { g() else 1; while (1) { } } end { mark 1; } } fn g() { }").isSpent(2, 0, 0).marks().looks(4, 0);
        new House().with(3, "fn f(a) { open any x { clean { mark 1; } do { while (1) { } } } then { mark 2; } }").isSpent(3, 0, 0).marks();
        House house = new House().with(0, "fn f(a) { try { mark 5; codes.f(a); } catch any x { mark 1; } finally { mark 2; } }").with(1, "fn f(a) { on { values.f(a); } go { mark 3; } }").with(2, "fn f(a) { with { while (1) { } } end { mark 4; } }");
        house.isSpent(0, 0, 0).marks(5).looks(5, 2).looks(6, 0).looks(7, 3).looks(2, 5000);
        // nothing of it stands in the way of later runs, however many it left open
        House deep = new House().with(0, "fn f(a) { try { try { if (a) { f(a - 1); } while (1) { } } finally { mark 9; } } catch any x { mark 8; } } fn g(a) { try { try { throw foo a; } finally { mark 1; } } catch foo x { return x; } }");
        for (int i = 0; i < 12; i++) {
            deep.isSpent(0, 0, 23).looks(7, 24).marks().answers(0, 1, i, i).marks(1);
        }
        // what the finishing B itself spends
        new House().with(0, "fn f(a) { try { throw foo 1; } finally { while (1) { } } }").isSpent(0, 0, 0);
        // the next run begins anew
        house.with(2, "fn f(a) { return a; }").answersNone(0, 0, 0).marks(5, 2).looks(2, 11);
    }

    private static void framesOfOneTongue() {
        House.sentence("FRAMES: the 25th at one time: DEEP");
        for (int t = 0; t < 4; t++) {
            House house = new House().with(t, "fn f(a) { if (a) { return f(a - 1); } return 5; } fn g(a) { let h = &g; if (a) { return h!(a - 1); } return 6; } fn h(a) { while (a) { f(20); a = a - 1; } }");
            house.answersWhole(t, 0, 22, 5).looks(7, 23).answersWhole(t, 0, 23, 5).looks(7, 24).answersWhole(t, 1, 23, 6).looks(7, 24);
            for (int f = 0; f < 2; f++) {
                if (t == 1) {
                    // the 24th is left FAILING; for the 23rd the call's VALUE is none
                    house.answersNone(1, f, 24).looks(9, 6);
                } else {
                    house.fails(t, f, 24, 6).failure(0, t, 6);
                }
                house.looks(7, 24);
            }
            // at one time: those that are left don't count
            house.answersNone(t, 2, 20).looks(7, 22);
        }
    }

    private static void framesOverAllTongues() {
        House.sentence("(over all TONGUES)");
        House house = new House();
        for (int t = 0; t < 4; t++) {
            house.with(t, "fn f(a) { if (a) { return " + House.TONGUES[other(t)] + ".f(a - 1); } return 5; }");
        }
        for (int t = 0; t < 4; t++) {
            house.answersWhole(t, 0, 23, 5).looks(7, 24).looks(5, 23).looks(6, 0);
            // the 24th arises it; up to CODES it is turned, and there the call's VALUE is none
            House.due("25 FRAMES", house.x.call(t, 0, 24), 0);
            house.looks(1, 0).looks(7, 24).looks(5, 23);
        }
    }

    private static void deepIsInTheCaller() {
        House.sentence("DEEP, in the caller, at the call");
        House house = new House().with(0, "fn f(a) { if (a) { try { return f(a - 1); } catch deep x { mark a; return 7; } } return 5; } fn g(a) { if (a) { return g(a - 1); } return 5; }");
        house.answers(0, 0, 23, 5).marks().answers(0, 0, 24, 7).marks(1).answers(0, 0, 30, 7).marks(7);
        house.fails(0, 1, 24, 6).failureAt(0, 0, 6, "return g(a - 1);", 0, 0, 0, 1);
        new House().with(1, "fn f(a) { if (a) { on { return f(a - 1); } go { mark a; return cell; } } return 5; }").answers(1, 0, 24, 6).marks(1).looks(9, 6);
        new House().with(2, "fn f(a) { if (a) { return f(a - 1) else a * 100; } return 5; }").answers(2, 0, 24, 100).answers(2, 0, 23, 5);
        new House().with(3, "fn f(a) { if (a) { open deep x { return f(a - 1); } then { mark a; return 7; } } return 5; }").answersReal(3, 0, 24, 7).marksOf(3, 1);
        // no border is passed by it, and the FRAMES stay 24
        house = new House().with(0, "fn f(a) { if (a) { return f(a - 1); } try { return codes.g(); } catch deep x { return 8; } }").with(1, "fn g() { return 9; }");
        house.answers(0, 0, 22, 9).looks(5, 1).looks(7, 24).answers(0, 0, 23, 8).looks(5, 0).looks(7, 24);
    }

    private static final String[] NO_NUMBERS = {"none", "new[1]", "&f"};

    private static void signsOfNumbers() {
        House.sentence("+ - * / % and - ahead, < <= > >=: NUMBERS (else SORT)");
        for (int t = 0; t < 4; t++) {
            for (String sign : new String[] {"+", "-", "*", "/", "%", "<", "<=", ">", ">="}) {
                for (String no : NO_NUMBERS) {
                    House house = new House().with(t, "fn f(a) { return a " + sign + " " + no + "; } fn g(a) { return " + no + " " + sign + " a; } fn h(a) { return " + no + " " + sign + " " + no + "; }");
                    house.fails(t, 0, 1, 4).fails(t, 1, 1, 4).fails(t, 2, 1, 4);
                    // SORT ahead of ZERO
                    house.fails(t, 1, 0, 4);
                }
            }
            for (String no : NO_NUMBERS) {
                new House().with(t, "fn f(a) { return -" + no + "; }").fails(t, 0, 1, 4);
            }
        }
    }

    private static void sameOrNot() {
        House.sentence("== !=: NUMBERS by value, none, the same array, the same function; else they differ. They give 1 or 0");
        String[] parts = {"none", "0", "1", "x", "y", "&f", "&g", "&other.f"};
        for (int t = 0; t < 4; t++) {
            for (int i = 0; i < parts.length; i++) {
                for (int k = 0; k < parts.length; k++) {
                    String pair = (parts[i] + " == " + parts[k]).replace("other", House.TONGUES[other(t)]);
                    House house = new House().with(t, "fn f(a) { let x = new[1]; let y = new[1]; return " + pair + "; } fn g(a) { let x = new[1]; let y = new[1]; return " + pair.replace("==", "!=") + "; }").with(other(t), "fn f() { }");
                    house.answersWhole(t, 0, 0, i == k ? 1 : 0).answersWhole(t, 1, 0, i == k ? 0 : 1);
                }
            }
            new House().with(t, "fn f(a) { let x = new[1]; let y = new[1]; y[0] = x; x[0] = y; mark y[0] == x; mark x == y; let z = x; z[0] = 3; return x[0]; }").answersWhole(t, 0, 0, 3).marksOf(t, 1, 0);
        }
        new House().with(3, "fn f(a) { mark -0 == 0; mark 0.1 + 0.2 == 0.3; mark 0.5 == 0.5; mark 0.5 != 0.25; }").answersNone(3, 0, 0).marksOf(3, 1, 0, 1, 1);
        new House().with(0, "fn f(a) { mark 4294967296 == 0; mark 9223372036854775807 == 9223372036854775806; }").answersNone(0, 0, 0).marks(0, 0);
    }

    private static void questions() {
        House.sentence("A question (if, while): a NUMBER (else SORT), true if it isn't 0");
        for (int t = 0; t < 4; t++) {
            House house = new House().with(t, "fn f(a) { if (a) { return 1; } return 2; } fn g(a) { while (a) { return 1; } return 2; } fn h(a) { if (a) { } else { return 2; } return 1; }");
            for (long a : new long[] {1, -1, 2147483647, -2147483648L}) {
                house.answersWhole(t, 0, a, 1).answersWhole(t, 1, a, 1).answersWhole(t, 2, a, 1);
            }
            house.answersWhole(t, 0, 0, 2).answersWhole(t, 1, 0, 2).answersWhole(t, 2, 0, 2);
            for (String no : NO_NUMBERS) {
                new House().with(t, "fn f(a) { if (" + no + ") { mark 1; } else { mark 2; } mark 3; } fn g(a) { while (" + no + ") { mark 1; } mark 2; }").fails(t, 0, 0, 4).marks().fails(t, 1, 0, 4).marks();
            }
        }
        new House().with(0, "fn f(a) { if (4294967296) { return 1; } return 2; }").answers(0, 0, 0, 1);
        new House().with(3, "fn f(a) { if (0.25) { mark 1; } if (-0) { mark 2; } if (0.00000000000001) { mark 3; } if (0.0) { mark 4; } }").answersNone(3, 0, 0).marksOf(3, 1, 3);
    }

    private static void newOfNumbers() {
        House.sentence("new [ n ]: n a NUMBER (SORT), a whole one from 0 to 400 (SIZE)");
        for (int t = 0; t < 4; t++) {
            House house = new House().with(t, "fn f(a) { return new[a]; }");
            house.answers(t, 0, 0, 0).looks(1, 2).answers(t, 0, 1, 1).answers(t, 0, 400, 400).looks(1, 2).fails(t, 0, 401, 5).fails(t, 0, -1, 5).fails(t, 0, -2147483648L, 5).fails(t, 0, 2147483647, 5);
            for (String no : NO_NUMBERS) {
                new House().with(t, "fn f(a) { return new[" + no + "]; }").fails(t, 0, 0, 4);
            }
        }
        new House().with(0, "fn f(a) { return new[a]; }").fails(0, 0, 4294967296L, 5).fails(0, 0, 4294967297L, 5).fails(0, 0, Long.MIN_VALUE, 5);
        new House().with(2, "fn f(a) { return new[a]; }").fails(2, 0, 4294967297L, 5);
        House house = new House().with(3, "fn f(a) { return new[0.5]; } fn g(a) { return new[399.5]; } fn h(a) { return new[-0]; } fn k(a) { return new[400.25]; } fn l(a) { return new[-0.25]; } fn m(a) { return new[4294967297]; } fn n(a) { return new[999999999999999 * 999999999999999]; }");
        house.fails(3, 0, 0, 5).fails(3, 1, 0, 5).answers(3, 2, 0, 0).looks(1, 2).fails(3, 3, 0, 5).fails(3, 4, 0, 5).fails(3, 5, 0, 5).fails(3, 6, 0, 5);
    }

    private static void twentyThousandCells() {
        House.sentence("more than 20,000 cells in a run (an array of n counts n + 1): SIZE");
        for (int t = 0; t < 4; t++) {
            // 49 arrays of 400 have 19,649; 351 are left
            House house = new House().with(t, "fn f(a) { let i = 49; while (i) { new[400]; i = i - 1; } let x = new[a]; mark 1; return new[0]; } fn g(a) { let i = 49; while (i) { new[400]; i = i - 1; } i = 0; while (i < a) { new[0]; i = i + 1; } return new[0]; } fn h(a) { return new[a]; }");
            house.answers(t, 0, 349, 0).marksOf(t, 1).fails(t, 0, 350, 5).marksOf(t, 1);
            if (t == 2) {
                house.answers(2, 0, 0, 0).looks(1, 2);
            } else {
                house.fails(t, 0, 351, 5).marks();
            }
            house.answers(t, 1, 350, 0).looks(1, 2).fails(t, 1, 351, 5).answers(t, 2, 400, 400);
        }
        // one that is refused counts nothing
        House house = new House().with(0, "fn f(a) { let i = 49; while (i) { new[400]; i = i - 1; } try { new[400]; } catch size1 x { } catch machine x { mark 1; } new[350]; mark 2; new[0]; }");
        house.fails(0, 0, 0, 5).marks(1, 2).fails(0, 0, 0, 5).marks(1, 2);
        // those of all TONGUES count
        house = new House().with(0, "fn f(a) { codes.f(25); let i = 24; while (i) { new[400]; i = i - 1; } new[a]; return 1; }").with(1, "fn f(i) { while (i) { new[400]; i = i - 1; } }");
        house.answers(0, 0, 350, 1).fails(0, 0, 351, 5);
    }

    private static void sizes() {
        House.sentence("size ( ): of an array (else SORT; of none NOTHING)");
        for (int t = 0; t < 4; t++) {
            House house = new House().with(t, "fn f(a) { return size(new[a]); } fn g(a) { return size(a); } fn h(a) { return size(none); } fn k(a) { return size(&f); } fn l(a) { let x = " + House.TONGUES[other(t)] + ".m(a); return size(x); }").with(other(t), "fn m(a) { return new[a]; }");
            house.answersWhole(t, 0, 0, 0).answersWhole(t, 0, 400, 400).fails(t, 1, 0, 4).fails(t, 1, 5, 4).fails(t, 2, 0, 3).fails(t, 3, 0, 4).answersWhole(t, 4, 3, 3);
        }
    }

    private static void eachArrayItsOwn() {
        House.sentence("size, x [ i ], x [ i ] = E: of the array that x is, be there others");
        for (int t = 0; t < 4; t++) {
            House house = new House().with(t, "fn f(a) { let x = new[2]; let y = new[3]; let z = new[0]; mark size(x); mark size(y); mark size(z); mark size(new[7]); x[0] = 1; x[1] = 2; y[0] = 3; y[1] = 4; y[2] = 5; return x[0] * 10000 + x[1] * 1000 + y[0] * 100 + y[1] * 10 + y[2]; } "
                + "fn g(a) { let x = new[2]; let y = new[3]; if (a) { return y; } return x; } fn h(a) { let x = new[2]; let y = new[3]; y[a] = 1; return x[a]; } fn k(a) { let y = new[3]; let x = new[2]; return x[a]; }");
            house.answersWhole(t, 0, 0, 12345).marksOf(t, 2, 3, 0, 7).answers(t, 1, 0, 2).answers(t, 1, 1, 3).looks(1, 2).answersNone(t, 2, 1).fails(t, 2, 2, 2).fails(t, 2, 3, 2).answersNone(t, 3, 1).fails(t, 3, 2, 2);
        }
    }

    private static void cellsThatAreNot() {
        House.sentence("x [ i ]: x an array (none: NOTHING; else SORT), i a NUMBER (SORT), a whole one that x has (INDEX)");
        for (int t = 0; t < 4; t++) {
            House house = new House().with(t, "fn f(a) { let x = new[3]; x[2] = 6; x[0] = 4; return x[a]; } fn g(a) { let x = none; return x[a]; } fn h(a) { return a[0]; } fn k(a) { let x = &f; return x[0]; } fn l(a) { let x = new[3]; return x[none]; } fn m(a) { let x = new[3]; return x[x]; } fn n(a) { let x = new[3]; return x[&f]; } "
                + "fn o(a) { let x = new[0]; return x[a]; } fn p(a) { let x = none; return x[none]; } fn q(a) { return a[none]; } fn r(a) { let x = new[400]; x[399] = 9; return x[a]; }");
            house.answersWhole(t, 0, 0, 4).answersNone(t, 0, 1).answersWhole(t, 0, 2, 6).fails(t, 0, 3, 2).fails(t, 0, -1, 2).fails(t, 0, 2147483647, 2).fails(t, 0, -2147483648L, 2);
            house.fails(t, 0, 4, 2).fails(t, 0, 5, 2).fails(t, 0, 399, 2).fails(t, 0, 400, 2);
            house.fails(t, 1, 0, 3).fails(t, 2, 0, 4).fails(t, 3, 0, 4).fails(t, 4, 0, 4).fails(t, 5, 0, 4).fails(t, 6, 0, 4).fails(t, 7, 0, 2).fails(t, 8, 0, 3).fails(t, 9, 0, 4);
            house.answersWhole(t, 10, 399, 9).fails(t, 10, 400, 2).fails(t, 10, 401, 2);
        }
        new House().with(0, "fn f(a) { let x = new[3]; return x[a]; }").fails(0, 0, 4294967296L, 2).fails(0, 0, Long.MIN_VALUE, 2);
        House house = new House().with(3, "fn f(a) { let x = new[3]; x[0] = 4; return x[-0]; } fn g(a) { let x = new[3]; return x[0.5]; } fn h(a) { let x = new[3]; return x[2.5]; } fn k(a) { let x = new[3]; return x[-0.5]; } fn l(a) { let x = new[3]; return x[4294967296]; }");
        house.answersReal(3, 0, 0, 4).fails(3, 1, 0, 2).fails(3, 2, 0, 2).fails(3, 3, 0, 2).fails(3, 4, 0, 2);
    }

    private static void cellsAreAskedInOrder() {
        House.sentence("x [ i ] = E: x, i, E are worked out, then x is asked, i, then the cell of the array that x was becomes E");
        for (int t = 0; t < 4; t++) {
            House house = new House().with(t, "fn m(a) { mark a; return a; } fn f(a) { let x = none; x[m(1)] = m(2); mark 9; } fn g(a) { a[m(1)] = m(2); } fn h(a) { let x = none; x[none] = m(2); } fn k(a) { a[none] = m(2); } fn l(a) { let x = new[2]; x[none] = m(2); } fn n(a) { let x = new[2]; x[a] = m(2); return x[1]; } "
                + "fn o(a) { let x = new[2]; x[0] = p(x); return x[0]; } fn p(x) { x[0] = 5; x[1] = 6; return x[0] + 1; } fn q(a) { let x = &f; x[0] = 1; } fn r(a) { let x = new[1]; x[0] = none; x[0] = x; let y = x[0]; y[0] = &f; return x[0]; }");
            house.fails(t, 1, 0, 3).marksOf(t, 1, 2).fails(t, 2, 0, 4).marksOf(t, 1, 2).fails(t, 3, 0, 3).marksOf(t, 2).fails(t, 4, 0, 4).marksOf(t, 2).fails(t, 5, 0, 4).marksOf(t, 2);
            house.fails(t, 6, 3, 2).marksOf(t, 2).fails(t, 6, 400, 2).marksOf(t, 2).fails(t, 6, 2, 2).marksOf(t, 2).fails(t, 6, -1, 2).marksOf(t, 2).answersWhole(t, 6, 1, 2).answersNone(t, 6, 0);
            house.answersWhole(t, 7, 0, 6).fails(t, 9, 0, 4).answers(t, 10, 0, 64 * t + 1).looks(1, 3);
        }
        new House().with(3, "fn f(a) { let x = new[2]; x[0.5] = 1; } fn g(a) { let x = new[2]; x[-0] = 1; return x[0]; }").fails(3, 0, 0, 2).answersReal(3, 1, 0, 1);
    }

    private static void cellsOfAnotherTongue() {
        House.sentence("A cell's VALUE in another TONGUE than the array's is turned from that one to this one, what is put there back (4; not turned: SORT)");
        House house = new House().with(0, "fn f(a) { let x = exits.k(); return x[a]; } fn g(a) { let x = exits.k(); x[2] = a; return exits.l(x); } fn h(a) { let x = exits.k(); x[0] = none; x[1] = x; x[2] = &h; mark x[0] == none; mark x[1] == x; return x[2]; } "
            + "fn m(a) { let x = exits.k(); try { x[0] = a; } catch sort e { mark 1; } return exits.l(x); }").with(3, "fn k() { let x = new[3]; x[0] = 7; x[1] = 2.5; return x; } fn l(x) { return x[2] == none; }");
        house.answers(0, 0, 0, 7).fails(0, 0, 1, 4).failureAt(0, 0, 4, "return x[a];", 0, 0, 0, 0).answersNone(0, 0, 2);
        house.answers(0, 1, 9007199254740992L, 0).fails(0, 1, 9007199254740993L, 4).answers(0, 2, 0, 2).looks(1, 3).marks(1, 1);
        house.answers(0, 3, 5, 1).marks().answers(0, 3, 9007199254740993L, 1).marks(1);
        // each by the RULE of its own way
        house.x.rule(3, 0, 1);
        house.answers(0, 0, 1, 2).fails(0, 1, 9007199254740993L, 4);
        house.x.rule(0, 3, 2);
        house.answers(0, 1, 9007199254740993L, 0);
        house.x.rule(3, 0, 0);
        house.fails(0, 0, 1, 4).looks(5, 1).looks(6, 0);
        // in VALUES what isn't turned FAILS, or leaves the function at a cell's =
        house = new House().with(2, "fn f(a) { let x = throws.k(); return tag(x[0]); } fn g(a) { let x = codes.k(); x[0] = a; mark 1; return x[0]; }").with(0, "fn k() { let x = new[1]; x[0] = 100000000000000001; return x; }").with(1, "fn k() { return new[1]; }");
        house.answers(2, 0, 0, 4).answers(2, 1, 2147483647, 2147483647).fails(2, 1, 2147483648L, 4).marks();
    }

    private static void marksOfNumbers() {
        House.sentence("mark: a NUMBER (else SORT) is kept, with its TONGUE");
        for (int t = 0; t < 4; t++) {
            House house = new House().with(t, "fn f(a) { mark a; mark -a; mark 0; }").answersNone(t, 0, 5).marksOf(t, 5, -5, 0);
            for (int i = 0; i < 3; i++) {
                House.due("its TONGUE", house.x.markTongue(i), t);
            }
            for (String no : NO_NUMBERS) {
                new House().with(t, "fn f(a) { mark 1; mark " + no + "; mark 2; }").fails(t, 0, 0, 4).marksOf(t, 1).looks(2, 3 + (no.startsWith("new") ? 1 : 0));
            }
        }
    }

    private static void twoHundredMarks() {
        House.sentence("(the first 200 of a run)");
        for (int t = 0; t < 4; t++) {
            House house = new House().with(t, "fn f(a) { let i = 0; while (i < a) { i = i + 1; mark i; } }");
            for (int n : new int[] {15, 16, 17, 31, 32, 33, 63, 64, 65, 127, 128, 129}) {
                house.answersNone(t, 0, n).looks(3, n);
                House.due("the last of " + n, house.x.mark(n - 1), House.told(t, n));
                House.due("behind the last of " + n, house.x.mark(n), 0);
                House.due("its TONGUE", house.x.markTongue(n), -1);
            }
            for (int n : new int[] {199, 200, 201, 400, 3}) {
                house.answersNone(t, 0, n).looks(3, n);
                for (int i : new int[] {0, 2, 198, 199, 200, 201, 399}) {
                    boolean kept = i < Math.min(n, 200);
                    House.due("mark " + i + " of " + n, house.x.mark(i), kept ? House.told(t, i + 1) : 0);
                    House.due("its TONGUE", house.x.markTongue(i), kept ? t : -1);
                }
            }
        }
    }

    private static void returnsAndEnds() {
        House.sentence("return: the function is left (by all that finishes and cleans), its answer; at its end none");
        for (int t = 0; t < 4; t++) {
            House house = new House().with(t, "fn f(a) { while (1) { if (a) { return a; mark 1; } a = 3; } mark 2; } fn g(a) { } fn h(a) { a; } fn k(a) { mark g(a) == none; mark h(a) == none; return f(a); }");
            house.answersWhole(t, 0, 5, 5).marks().answersWhole(t, 0, 0, 3).answersNone(t, 1, 5).answersNone(t, 2, 5).answersWhole(t, 3, 5, 5).marksOf(t, 1, 1);
        }
        new House().with(0, "fn f(a) { try { try { return a; } finally { mark 1; a = 9; } } catch any x { mark 8; } finally { mark 2; } mark 9; }").answers(0, 0, 5, 5).marks(1, 2);
        new House().with(1, "fn f(a) { on { return a; } go { mark 8; } mark 9; }").answers(1, 0, 5, 5).marks();
        new House().with(2, "fn f(a) { with { with { return a; } end { mark 1; a = 9; } } end { mark 2; } mark 9; }").answers(2, 0, 5, 5).marks(1, 2);
        new House().with(3, "fn f(a) { clean { mark 2; } do { open any x { clean { mark 1; a = 9; } do { return a; } } then { mark 8; } } mark 9; }").answersReal(3, 0, 5, 5).marksOf(3, 1, 2);
        // a guard that a return has left holds nothing more
        new House().with(0, "fn f(a) { try { g(); throw foo 3; } catch foo x { return x; } } fn g() { try { return 1; } catch foo x { mark 9; } }").answers(0, 0, 0, 3).marks();
        new House().with(1, "fn f(a) { while (a) { on { a = a - 1; if (a == 0) { g(); } } go { return 8; } } fail 5; } fn g() { on { return 1; } go { mark 9; } }").fails(1, 0, 3, 5).marks();
    }
}
