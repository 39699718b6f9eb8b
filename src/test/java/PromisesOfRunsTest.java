/** Promises 9 to 14 sentence by sentence: what is told of the latest run. */
public final class PromisesOfRunsTest {
    public static void main(String[] args) {
        lookOfTheLatestRun();
        lookAtTheAnswersSort();
        lookAtSteps();
        lookAtMarks();
        lookAtDropped();
        lookAtBordersPassed();
        lookAtFailuresTurned();
        lookAtFrames();
        lookAtLifeCellAndNames();
        lookAtNoneSuch();
        answersOfEachSort();
        answersOfDoubles();
        answersThatAreNone();
        marksOfTheLatestRun();
        marksNotKept();
        failureFacts();
        failureThatCameOut();
        failureSources();
        failureOfNoneSuch();
        underTheLatestFirst();
        underEachFact();
        underOfNoneSuch();
        House.close("PromisesOfRunsTest");
    }

    private static void lookOfTheLatestRun() {
        House.sentence("look: of the latest run, what 0: its outcome");
        House house = new House().with(2, "fn f(a) { bad foo(1); mark 1; mark 2; throws.f(a); return 5; } fn g(a) { } fn h(a) { while (1) { } } fn k(a) { return 1 / 0; }").with(0, "fn f(a) { throw any 1; }");
        house.answers(2, 0, 1, 5).looks(0, 0).looks(1, 1).looks(2, 11).looks(3, 2).looks(4, 2).looks(5, 1).looks(6, 1).looks(7, 2).looks(8, 11);
        // each of them begins anew
        house.answersNone(2, 1, 1);
        for (int what = 0; what <= 7; what++) {
            house.looks(what, what == 7 ? 1 : 0);
        }
        house.looks(8, 11).fails(2, 3, 0, 1).looks(0, 1).isSpent(2, 2, 0).looks(0, 2).answersNone(2, 1, 1).looks(0, 0);
    }

    private static void lookAtTheAnswersSort() {
        House.sentence("1: its answer: 0 none, 1 a NUMBER, 2 an array, 3 a function (0 without an answer)");
        String[] values = {"none", "0", "new[0]", "&f"};
        String[] failing = {"throw foo 5;", "fail 5;", "return bad foo(5);", "exit foo 5;"};
        for (int t = 0; t < 4; t++) {
            for (int i = 0; i < 4; i++) {
                new House().with(t, "fn f(a) { return " + values[i] + "; }").answers(t, 0, 0, i == 3 ? 64 * t : 0).looks(1, i);
            }
            House house = new House().with(t, "fn f(a) { " + failing[t] + " } fn g(a) { return 5; } fn h(a) { while (1) { } }");
            house.answersWhole(t, 1, 0, 5).looks(1, 1);
            House.due("failed", house.x.call(t, 0, 0), 1);
            house.looks(1, 0).answersWhole(t, 1, 0, 5).looks(1, 1).isSpent(t, 2, 0).looks(1, 0);
        }
    }

    private static void lookAtSteps() {
        House.sentence("2: STEPS");
        for (int t = 0; t < 4; t++) {
            House house = new House().with(t, "fn f(a) { while (a) { a = a - 1; } } fn g() { }");
            for (int a : new int[] {0, 1, 2, 100, 1666}) {
                house.answersNone(t, 0, a).looks(2, 1 + 3 * a);
            }
            house.isSpent(t, 0, 1667).looks(2, 5000).answersNone(t, 1, 0).looks(2, 0);
        }
    }

    private static void lookAtMarks() {
        House.sentence("3: MARKS (all)");
        for (int t = 0; t < 4; t++) {
            House house = new House().with(t, "fn f(a) { while (a) { mark a; a = a - 1; } }");
            for (int a : new int[] {0, 1, 199, 200, 201, 1000}) {
                house.answersNone(t, 0, a).looks(3, a);
            }
        }
        House house = new House().with(0, "fn f(a) { mark 1; codes.f(a); mark 2; }").with(1, "fn f(a) { mark 3; mark 4; }").answersNone(0, 0, 0).looks(3, 4);
    }

    private static void lookAtDropped() {
        House.sentence("4: how many DROPPED");
        House house = new House().with(2, "fn f(a) { while (a) { bad foo(1); a = a - 1; 1; } } fn g(a) { f(3); throws.g(); } fn h(a) { 1 / 0; return 1 / 0; }").with(0, "fn g() { values.f(2); }");
        house.answersNone(2, 0, 0).looks(4, 0).answersNone(2, 0, 1).looks(4, 1).answersNone(2, 0, 300).looks(4, 300).answersNone(2, 1, 0).looks(4, 5).fails(2, 2, 0, 1).looks(4, 1);
        // in the other TONGUES nothing is
        new House().with(1, "fn f(a) { g(); g(); } fn g() { fail 3; }").answersNone(1, 0, 0).looks(4, 0);
        new House().with(0, "fn f(a) { try { 1 / 0; } catch any x { } }").answersNone(0, 0, 0).looks(4, 0);
    }

    private static void lookAtBordersPassed() {
        House.sentence("5: borders passed by calls");
        House house = new House().with(0, "fn f(a) { g(); codes.f(); codes.f(); } fn g() { } fn h(a) { try { codes.no(); } catch any x { } try { codes.g(4294967296); } catch any x { } } fn k(a) { try { codes.k(); } catch any x { } } fn l(a) { let p = &codes.f; p!(); let q = &g; q!(); }")
            .with(1, "fn f() { values.f(); } fn g(a) { } fn k() { fail 3; }").with(2, "fn f() { f2(); } fn f2() { }");
        house.answersNone(0, 0, 0).looks(5, 4).answersNone(0, 2, 0).looks(5, 0).answersNone(0, 3, 0).looks(5, 1).answersNone(0, 4, 0).looks(5, 2);
        // a cell that is turned is no call
        new House().with(0, "fn f(a) { let x = codes.f(); x[0] = 1; return x[0]; }").with(1, "fn f() { return new[1]; }").answers(0, 0, 0, 1).looks(5, 1);
    }

    private static void lookAtFailuresTurned() {
        House.sentence("6: FAILURES turned");
        House house = new House().with(0, "fn f(a) { while (a) { try { codes.f(); } catch any x { } a = a - 1; } } fn g(a) { try { codes.g(4294967296); } catch any x { } try { a = 1 / 0; } catch any x { } } fn h(a) { try { codes.h(); } catch any x { } }")
            .with(1, "fn f() { fail 3; } fn g(a) { } fn h() { on { values.f(); } go { fail cell; } }").with(2, "fn f() { return bad foo(1); }");
        house.answersNone(0, 0, 0).looks(6, 0).answersNone(0, 0, 1).looks(6, 1).answersNone(0, 0, 50).looks(6, 50).answersNone(0, 1, 1).looks(6, 0).answersNone(0, 2, 0).looks(6, 2);
    }

    private static void lookAtFrames() {
        House.sentence("7: FRAMES at most");
        for (int t = 0; t < 4; t++) {
            House house = new House().with(t, "fn f(a) { if (a) { f(a - 1); } return a; } fn g(a) { f(5); f(2); " + House.TONGUES[(t + 1) % 4] + ".f(); }").with((t + 1) % 4, "fn f() { }");
            house.answersWhole(t, 0, 0, 0).looks(7, 1).answersWhole(t, 0, 1, 1).looks(7, 2).answersWhole(t, 0, 23, 23).looks(7, 24).answersNone(t, 1, 0).looks(7, 7).answersWhole(t, 0, 0, 0).looks(7, 1);
        }
    }

    private static void lookAtLifeCellAndNames() {
        House.sentence("8: STEPS in the house's life, 9: the CELL, 10: NAMES in all");
        House house = new House().with(1, "fn f(a) { fail a; }").looks(8, 0).looks(9, 0).looks(10, 11).fails(1, 0, 7, 7).looks(8, 2).looks(9, 7).fails(1, 0, -3, -3).looks(8, 4).looks(9, -3);
        house.with(0, "fn f(a) { throw foo 1; throw bar 2; throw foo 3; }").looks(8, 4).looks(9, -3).looks(10, 13).fails(0, 0, 0, 12).looks(8, 6).looks(2, 2).looks(9, -3);
        house.with(0, "").looks(8, 6).looks(10, 13);
    }

    private static void lookAtNoneSuch() {
        House.sentence("look: NONE for another what");
        House house = new House().with(0, "fn f(a) { return a; }");
        for (int run = 0; run < 2; run++) {
            for (int what : new int[] {-1, -2, 11, 12, 100, Integer.MIN_VALUE, Integer.MAX_VALUE}) {
                House.due("look " + what, house.x.look(what), -1);
            }
            house.answers(0, 0, 5, 5);
        }
    }

    private static void answersOfEachSort() {
        House.sentence("The answer of the latest run: a NUMBER, how many cells, 64 times a function's TONGUE and its number");
        for (int t = 0; t < 4; t++) {
            House house = new House();
            for (int u = 0; u < 4; u++) {
                StringBuilder text = new StringBuilder();
                for (int f = 0; f < 40; f++) {
                    text.append("fn f").append(f).append("(a){").append(f == 0 && u == t ? "if(a<40){return &f39;}if(a<100){return &throws.f7;}if(a<200){return &exits.f39;}if(a<300){return &codes.f0;}return &values.f1;" : "").append("}");
                }
                house.with(u, text.toString());
            }
            house.answers(t, 0, 0, 64 * t + 39).looks(1, 3).answers(t, 0, 50, 7).looks(1, 3).answers(t, 0, 150, 64 * 3 + 39).answers(t, 0, 250, 64).answers(t, 0, 350, 64 * 2 + 1);
            house = new House().with(t, "fn f(a) { return new[a]; } fn g(a) { return a; }").answers(t, 0, 0, 0).answers(t, 0, 1, 1).answers(t, 0, 400, 400).looks(1, 2);
            house.answersWhole(t, 1, 2147483647, 2147483647).answersWhole(t, 1, -2147483648L, -2147483648L).answersWhole(t, 1, 0, 0);
        }
        new House().with(0, "fn f(a) { return a; }").answers(0, 0, Long.MIN_VALUE, Long.MIN_VALUE).answers(0, 0, Long.MAX_VALUE, Long.MAX_VALUE);
    }

    private static void answersOfDoubles() {
        House.sentence("(a double's bits)");
        String scale = "fn s(x, n) { while (n >= 10) { x = x * 1024; n = n - 10; } while (n > 0) { x = x * 2; n = n - 1; } while (n <= -10) { x = x / 1024; n = n + 10; } while (n < 0) { x = x / 2; n = n + 1; } return x; } ";
        double[] values = {0.0, -0.0, 1.0, -1.0, 0.5, 1.5, -2.75, 0.1, 123456789.125, 0x1.8p1023, -0x1p1023, 0x1p-1022, 0x1.8p-1022, 0x1p-1023, 0x1.8p-1023, -0x1p-1074, 0x1.8p-1073, 0x1.0p-1060};
        String[] made = {"0", "-0", "1", "-1", "0.5", "1.5", "-2.75", "0.1", "123456789.125", "s(1.5, 1023)", "-s(1, 1023)", "s(1, -1022)", "s(1.5, -1022)", "s(1, -1023)", "s(1.5, -1023)", "-s(1, -1074)", "s(1.5, -1073)", "s(1, -1060)"};
        for (int i = 0; i < values.length; i++) {
            House house = new House().with(3, scale + "fn f(a) { mark " + made[i] + "; return " + made[i] + "; }").answersReal(3, 1, 0, values[i]).looks(1, 1);
            House.due("mark of " + values[i], house.x.mark(0), Double.doubleToRawLongBits(values[i]));
        }
    }

    private static void answersThatAreNone() {
        House.sentence("answer: 0 of none, or without an answer");
        String[] failing = {"throw foo 5;", "fail 5;", "return bad foo(5);", "exit foo 5;"};
        for (int t = 0; t < 4; t++) {
            House house = new House().with(t, "fn f(a) { return 7; } fn g(a) { } fn h(a) { " + failing[t] + " } fn k(a) { while (1) { } } fn l(a) { return none; }");
            for (int f = 1; f <= 4; f++) {
                house.answersWhole(t, 0, 0, 7);
                house.x.call(t, f, 0);
                House.due("answer", house.x.answer(), 0);
            }
        }
    }

    private static void marksOfTheLatestRun() {
        House.sentence("MARK i of the latest run (a double's bits); its TONGUE");
        House house = new House().with(0, "fn f(a) { mark -9223372036854775807 - 1; codes.f(); mark 9223372036854775807; values.f(); exits.f(); mark 0; } fn g(a) { mark a; } fn h(a) { }").with(1, "fn f() { mark 2147483647; mark 0; }").with(2, "fn f() { mark -100000000000000000; }").with(3, "fn f() { mark 0.5; mark -0; }");
        house.answersNone(0, 0, 0).marks(Long.MIN_VALUE, 2147483647, 0, Long.MAX_VALUE, -100000000000000000L, Double.doubleToRawLongBits(0.5), Long.MIN_VALUE, 0);
        int[] tongues = {0, 1, 1, 0, 2, 3, 3, 0};
        for (int i = 0; i < tongues.length; i++) {
            House.due("markTongue " + i, house.x.markTongue(i), tongues[i]);
        }
        house.answersNone(0, 1, 8).marks(8).answersNone(0, 2, 8).marks();
        // those of a run that fails or is SPENT are there, too
        new House().with(0, "fn f(a) { mark 4; throw foo 1; } fn g(a) { mark 5; while (1) { } }").fails(0, 0, 0, 12).marks(4).isSpent(0, 1, 0).marks(5);
    }

    private static void marksNotKept() {
        House.sentence("mark: 0 if it isn't kept; markTongue: NONE likewise");
        House house = new House().with(1, "fn f(a) { while (a) { mark 7; a = a - 1; } }");
        for (int n : new int[] {0, 1, 200, 201, 300}) {
            house.answersNone(1, 0, n);
            int kept = Math.min(n, 200);
            for (int i : new int[] {kept, kept + 1, 200, 299, 1000, -1, Integer.MIN_VALUE, Integer.MAX_VALUE}) {
                House.due("mark " + i + " of " + n, house.x.mark(i), 0);
                House.due("markTongue " + i + " of " + n, house.x.markTongue(i), -1);
            }
            if (kept > 0) {
                House.due("the last", house.x.mark(kept - 1), 7);
                House.due("its TONGUE", house.x.markTongue(kept - 1), 1);
            }
        }
    }

    private static void failureFacts() {
        House.sentence("what 0 its TONGUE, 1 what it is, 2 its PLACE, 3: 0 it arose itself, 1 by an ENTRY, 2 by a DEFAULT, 4 how many lie under it, 5 its VALUE, 6 the function in which it arose");
        House house = new House().with(0, "fn e() { }\nfn f(a) { g(a); } fn g(a) { try { try { throw foo a; } finally { throw bar new[1]; } } finally { throw baz &e; } }").with(2, "fn e() { } fn e2() { } fn e3() { } fn f(a) { mark 1;  return throws.f(a); }");
        house.fails(0, 1, 5, 14).failureAt(0, 0, 14, "throw baz &e;", 0, 1, 3, 2).underAt(0, 0, 0, 13, "throw bar new[1];", 0, 1, 2, 2);
        house.fails(2, 3, 5, 9).failureAt(0, 2, 9, "return throws.f(a);", 2, 0, 3, 3).failureAt(1, 0, 14, "throw baz &e;", 0, 1, 3, 2);
        house.x.entry(0, 2, 14, 13);
        house.fails(2, 3, 5, 13).failureAt(0, 2, 13, "return throws.f(a);", 1, 0, 3, 3);
        String[] failing = {"throw foo VALUE;", null, "return bad foo(VALUE);", null};
        String[] values = {"none", "7", "new[1]", "&f"};
        for (int t = 0; t < 4; t += 2) {
            for (int i = 0; i < 4; i++) {
                new House().with(t, "fn f(a) { " + failing[t].replace("VALUE", values[i]) + " }").fails(t, 0, 0, 12).failure(0, t, 12, 10, 0, 0, i, 0);
            }
        }
        // function 39, and a PLACE near the end
        StringBuilder text = new StringBuilder();
        for (int f = 0; f < 39; f++) {
            text.append("fn f").append(f).append("(){}");
        }
        text.append(" ".repeat(2975 - text.length())).append("fn f39(){return 1/0;}");
        new House().with(3, text.toString()).fails(3, 39, 0, 1).failure(0, 3, 1, 2984, 0, 0, 0, 39);
    }

    private static void failureThatCameOut() {
        House.sentence("Of the FAILURE that came out of the latest run (i 0)");
        House house = new House().with(0, "fn f(a) { try { throw foo 1; } catch foo x { } throw bar 2; } fn g(a) { try { throw foo 1; } catch foo x { } return 2; } fn h(a) { while (1) { } }");
        house.fails(0, 0, 0, 13).failureAt(0, 0, 13, "throw bar 2;", 0, 0, 1, 0).failure(1, -1);
        // none came out of the next ones
        house.answers(0, 1, 0, 2).failure(0, -1, -1, -1, -1, -1, -1, -1).fails(0, 0, 0, 13).isSpent(0, 2, 0).failure(0, -1, -1, -1, -1, -1, -1, -1).fails(0, 0, 0, 13);
        House.due("3: nothing happens", house.x.call(0, 9, 0), 3);
        house.failureAt(0, 0, 13, "throw bar 2;", 0, 0, 1, 0);
    }

    private static void failureSources() {
        House.sentence("what it came from (i 1), and so on");
        int[] order = {0, 2, 3};
        for (int a = 0; a <= 22; a++) {
            House house = new House();
            for (int i = 0; i < 3; i++) {
                house.with(order[i], "fn f(a) { if (a) { return " + House.TONGUES[order[(i + 1) % 3]] + ".f(a - 1); } return 1 / 0; }");
            }
            house.fails(0, 0, a, a == 0 ? 1 : 9).looks(6, a);
            for (int i = 0; i < a; i++) {
                house.failure(i, order[i % 3], 9);
                House.due("by a DEFAULT", house.x.failure(i, 3), 2);
            }
            house.failure(a, order[a % 3], 1).failure(a + 1, -1, -1, -1, -1, -1, -1, -1);
        }
    }

    private static void failureOfNoneSuch() {
        House.sentence("failure: NONE if there is none such");
        House house = new House().with(0, "fn f(a) { values.f(a); }").with(2, "fn f(a) { return bad foo(1); }").fails(0, 0, 0, 9);
        for (int what : new int[] {-1, 7, 8, 9, 10, Integer.MIN_VALUE, Integer.MAX_VALUE}) {
            House.due("what " + what, house.x.failure(0, what), -1);
            House.due("what " + what, house.x.failure(1, what), -1);
        }
        for (int i : new int[] {-1, 2, 3, 100, Integer.MIN_VALUE, Integer.MAX_VALUE}) {
            for (int what = -1; what <= 8; what++) {
                House.due("i " + i, house.x.failure(i, what), -1);
            }
        }
    }

    private static void underTheLatestFirst() {
        House.sentence("Of the k-th that lies under the i-th (the latest first)");
        House house = new House().with(0, "fn f(a) { try { throw k0 1; } finally { try { throw k1 1; } finally { try { throw k2 1; } finally { throw k3 1; } } } }").with(2, "fn f(a) { return throws.f(a); }");
        house.fails(0, 0, 0, 15).under(0, 0, 0, 12).under(0, 1, 0, 13).under(0, 2, 0, 14).under(0, 3, -1);
        House.due("how many", house.x.failure(0, 4), 3);
        house.fails(2, 0, 0, 9).under(0, 0, -1).under(1, 0, 0, 12).under(1, 1, 0, 13).under(1, 2, 0, 14).under(1, 3, -1);
        // of a chain of its own each lies under the next
        house = new House().with(3, "fn f(a) { clean { a = none + 1; } do { clean { a = 1 / 0; } do { exit foo 1; } } }").fails(3, 0, 0, 4).under(0, 0, 3, 1).under(0, 1, -1);
        House.due("and under that", house.x.under(0, 0, 4), 1);
    }

    private static void underEachFact() {
        House.sentence("under: likewise what 0 to 6");
        String[] values = {"none", "7", "new[1]", "&e"};
        for (int i = 0; i < 4; i++) {
            House house = new House().with(0, "fn e() { } fn f(a) { try { throw foo " + values[i] + "; } finally { no(); } }").fails(0, 1, 0, 3).failureAt(0, 0, 3, "no();", 0, 1, 0, 1).underAt(0, 0, 0, 12, "throw foo", 0, 0, i, 1);
        }
        House house = new House().with(0, "fn e() { } fn f(a) { try { values.f(a); } finally { no(); } }").with(2, "fn f(a) { return 1 / 0; }").fails(0, 1, 0, 3).underAt(0, 0, 0, 9, "values.f(a);", 2, 0, 0, 1);
        house.x.entry(2, 0, 1, 2);
        house.fails(0, 1, 0, 3).underAt(0, 0, 0, 2, "values.f(a);", 1, 0, 0, 1);
    }

    private static void underOfNoneSuch() {
        House.sentence("under: NONE if there is none such");
        House house = new House().with(0, "fn f(a) { try { throw foo 1; } finally { throw bar 2; } } fn g(a) { return 1; }").with(2, "fn f(a) { return throws.f(a); }").fails(2, 0, 0, 9);
        int[] ends = {-1, 2, 3, 100, Integer.MIN_VALUE, Integer.MAX_VALUE};
        House.due("there is one", house.x.under(1, 0, 1), 12);
        for (int end : ends) {
            for (int what = 0; what <= 6; what++) {
                House.due("i " + end, house.x.under(end, 0, what), -1);
                House.due("k " + end, house.x.under(1, end, what), -1);
                House.due("none under i 0", house.x.under(0, 0, what), -1);
                House.due("k 1", house.x.under(1, 1, what), -1);
            }
        }
        for (int what : new int[] {-1, 7, 8, 9, Integer.MIN_VALUE, Integer.MAX_VALUE}) {
            House.due("what " + what, house.x.under(1, 0, what), -1);
        }
        house.answers(0, 1, 0, 1);
        House.due("of a run that answered", house.x.under(1, 0, 1), -1);
        House.due("of a run that answered", house.x.under(0, 0, 1), -1);
    }
}
