/** Terms 3 sentence by sentence, FAILING: what each TONGUE does with what fails, and what finishes. */
public final class TermsFailingTest {
    public static void main(String[] args) {
        placeOfTheStatement();
        throwWithItsValue();
        innermostTryWithACatch();
        notFromItsOtherParts();
        firstCatchThatFits();
        catchVariableIsItsValue();
        finallyBehindTheFirst();
        finallyBehindACatch();
        cellBecomesTheCode();
        innermostOn();
        withoutAnOn();
        failOfNumbers();
        failOfNought();
        callsLeftFailing();
        callsLeftByABorder();
        comesInPlace();
        badWithItsValue();
        partsThatFail();
        tags();
        elseInPlace();
        elseWithinParts();
        leavesAtAQuestion();
        leavesAtAMark();
        leavesAtACellsPut();
        dropped();
        withAndEnd();
        innermostOpen();
        openOfFunctionsThatCalled();
        notOverABorder();
        exitsThatAreLost();
        exitsWithoutAnOpen();
        cleanAndDo();
        takesThePlaceByReturn();
        takesThePlaceByFailing();
        takenPlaceIsHeld();
        inFrontOfThoseUnder();
        notUnderItself();
        manyUnder();
        manyGuards();
        variablesStay();
        House.close("TermsFailingTest");
    }

    private static void placeOfTheStatement() {
        House.sentence("FAILING (arising, PLACE: the first byte of the statement at hand in the function at hand)");
        for (int t = 0; t < 4; t++) {
            // in VALUES each comes to what leaves the function
            String[] statements = {"return 1 / 0;", "mark 1 / 0;", "if (1 / 0) { mark 1; }", "while (1 / 0) { mark 1; }", "return 1 + (2 + f(3, 4 / 0));"};
            for (String statement : statements) {
                House house = new House().with(t, "fn e(b) { mark 5; }\n fn f(a) { let z = 1;\n  if (z) { e(z); } " + statement + " }");
                house.fails(t, 1, 0, 1).failureAt(0, t, 1, statement, 0, 0, 0, 1).marksOf(t, 5);
            }
            // within: the inner statement, and the while again behind its B
            House house = new House().with(t, "fn f(a) { while (1) { if (a) { mark a / (a - 1); } a = a - 1; } } fn g(a) { while (10 / a) { a = a - 1; } } fn h(a) { if (a) { } else { return a % a; } } fn k(a) { return f(a) + 1; }");
            house.fails(t, 0, 3, 1).failureAt(0, t, 1, "mark a / (a - 1);", 0, 0, 0, 0).fails(t, 1, 3, 1).failureAt(0, t, 1, "while (10 / a)", 0, 0, 0, 1).fails(t, 2, 0, 1).failureAt(0, t, 1, "return a % a;", 0, 0, 0, 2);
            if (t != 1) {
                house.fails(t, 3, 3, 1).failureAt(0, t, 1, "mark a / (a - 1);", 0, 0, 0, 0);
            }
        }
        // at the first byte of a text, and with blanks ahead
        new House().with(0, "  \n fn f(a){\n\n  a=1/0;}").fails(0, 0, 0, 1).failure(0, 0, 1, 16);
        new House().with(0, "fn f(a){1/0;}").fails(0, 0, 0, 1).failure(0, 0, 1, 8);
    }

    private static void throwWithItsValue() {
        House.sentence("0: what fails is THROWN (throw NAME E: with that VALUE; others none)");
        String[] values = {"none", "a", "new[2]", "&f"};
        for (int i = 0; i < 4; i++) {
            House house = new House().with(0, "fn f(a) { throw foo " + values[i] + "; } fn g(a) { let v = " + values[i] + "; try { throw foo v; } catch foo x { return x == v; } }");
            house.fails(0, 0, 5, 12).failure(0, 0, 12, 10, 0, 0, i, 0).answers(0, 1, 5, 1);
        }
        House house = new House().with(0, "fn f(a) { try { g(a); } catch any x { return x == none; } } fn g(a) { if (a == 1) { a = 1 / 0; } if (a == 2) { no(); } if (a == 3) { new[401]; } if (a == 4) { mark none; } if (a == 5) { codes.g(4294967296); } if (a == 6) { codes.f(); } }").with(1, "fn f() { fail 3; } fn g(a) { }");
        for (int a = 1; a <= 6; a++) {
            house.answers(0, 0, a, 1).fails(0, 1, a, a == 1 ? 1 : a == 2 ? 3 : a == 3 ? 5 : a == 4 ? 4 : 9);
            House.due("its VALUE", house.x.failure(0, 5), 0);
        }
        // what E itself fails with comes first, in each TONGUE
        new House().with(0, "fn f(a) { throw foo 1 / 0; }").fails(0, 0, 0, 1).looks(2, 3);
        new House().with(1, "fn f(a) { fail 1 / 0; }").fails(1, 0, 0, 1).looks(2, 3);
        new House().with(2, "fn f(a) { return bad foo(1 / 0); }").fails(2, 0, 0, 1).looks(2, 3);
        new House().with(3, "fn f(a) { open foo x { exit foo 1 / 0; } then { } }").fails(3, 0, 0, 1).looks(2, 4);
    }

    private static void innermostTryWithACatch() {
        House.sentence("out to the innermost try whose first B it comes from and that has a catch whose NAME is its KIND or one that this is UNDER");
        House house = new House().with(0, "kind son under foo; fn f(a) { try { try { try { g(a); } catch bar x { return 1; } } catch foo x { return 2; } mark 9; } catch any x { return 3; } mark 8; } "
            + "fn g(a) { if (a == 1) { throw bar 1; } if (a == 2) { throw foo 1; } if (a == 3) { throw son 1; } if (a == 4) { throw baz 1; } if (a == 5) { throw any 1; } if (a == 6) { a = 1 / 0; } }");
        house.answers(0, 0, 1, 1).answers(0, 0, 2, 2).answers(0, 0, 3, 2).answers(0, 0, 4, 3).answers(0, 0, 5, 3).answers(0, 0, 6, 3).answersNone(0, 0, 7).marks(9, 8);
        // a KIND isn't caught by one that is UNDER it
        new House().with(0, "kind son under foo; fn f(a) { try { throw foo 1; } catch son x { mark 1; } }").fails(0, 0, 0, 13).marks();
        new House().with(0, "fn f(a) { try { throw any 1; } catch foo x { mark 1; } catch machine x { mark 2; } }").fails(0, 0, 0, 10).marks();
        // through functions, and out of loops
        new House().with(0, "fn f(a) { try { while (1) { g(a); a = a - 1; } } catch foo x { return x; } } fn g(a) { if (a == 0) { throw foo 7; } }").answers(0, 0, 5, 7);
        // all is well behind it
        new House().with(0, "fn f(a) { while (a) { try { throw foo a; } catch foo x { mark x; } a = a - 1; } return 1; }").answers(0, 0, 3, 1).marks(3, 2, 1);
    }

    private static void notFromItsOtherParts() {
        House.sentence("whose first B it comes from");
        new House().with(0, "fn f(a) { try { throw foo 1; } catch foo x { throw foo 2; } catch any x { mark 9; } }").fails(0, 0, 0, 12).marks().failureAt(0, 0, 12, "throw foo 2;");
        new House().with(0, "fn f(a) { try { } catch foo x { mark 9; } finally { throw foo 2; } }").fails(0, 0, 0, 12).marks();
        new House().with(0, "fn f(a) { try { } catch foo x { mark 9; } throw foo 2; }").fails(0, 0, 0, 12).marks();
        new House().with(0, "fn f(a) { try { try { throw foo 1; } catch foo x { throw foo 2; } } catch foo x { return x; } }").answers(0, 0, 0, 2);
        new House().with(0, "fn f(a) { try { try { } finally { throw foo 2; } } catch foo x { return x; } }").answers(0, 0, 0, 2);
    }

    private static void firstCatchThatFits() {
        House.sentence("(the first one)");
        new House().with(0, "fn f(a) { try { throw foo 1; } catch bar x { return 1; } catch any x { return 2; } catch foo x { return 3; } }").answers(0, 0, 0, 2);
        new House().with(0, "fn f(a) { try { throw foo 1; } catch foo x { return 1; } catch foo x { return 2; } catch any x { return 3; } }").answers(0, 0, 0, 1);
        new House().with(0, "fn f(a) { try { throw foo 1; } catch a x { return 1; } catch b x { return 2; } catch c x { return 3; } catch foo x { return 4; } }").answers(0, 0, 0, 4);
        // only that B is done
        new House().with(0, "fn f(a) { try { throw foo 1; } catch foo x { mark 1; } catch any x { mark 2; } mark 3; }").answersNone(0, 0, 0).marks(1, 3);
    }

    private static void catchVariableIsItsValue() {
        House.sentence("the variable is its VALUE, that B is done, all is well");
        House house = new House().with(0, "fn f(a) { let x = 5; let y = 6; try { if (a) { throw foo a; } } catch foo x { y = x; } return x * 100 + y; }");
        house.answers(0, 0, 7, 707).answers(0, 0, 0, 506);
        new House().with(0, "fn f(a) { try { throw foo a; } catch foo a { a = a + 1; } return a; }").answers(0, 0, 7, 8);
    }

    private static void finallyBehindTheFirst() {
        House.sentence("finally's B is done behind the first B, however it is left (by return, too)");
        House house = new House().with(0, "fn f(a) { try { mark 1; if (a == 1) { return 10; } if (a == 2) { throw foo 3; } if (a == 3) { a = 1 / 0; } } finally { mark 4; } mark 5; return 30; } fn g(a) { try { h(a); } finally { mark 6; } } fn h(a) { try { throw foo a; } finally { mark 7; } }");
        house.answers(0, 0, 0, 30).marks(1, 4, 5).answers(0, 0, 1, 10).marks(1, 4).fails(0, 0, 2, 12).marks(1, 4).fails(0, 0, 3, 1).marks(1, 4);
        house.fails(0, 1, 9, 12).marks(7, 6).failureAt(0, 0, 12, "throw foo a;", 0, 0, 1, 2);
        // the answer is worked out ahead of it
        new House().with(0, "fn f(a) { try { return a; } finally { a = 9; } }").answers(0, 0, 5, 5);
        // once, and at each turn
        new House().with(0, "fn f(a) { while (a) { try { a = a - 1; if (a == 1) { return 7; } } finally { mark a; } } }").answers(0, 0, 4, 7).marks(3, 2, 1);
    }

    private static void finallyBehindACatch() {
        House.sentence("finally's B is done behind .. a catch's, however these are left (by return, too)");
        House house = new House().with(0, "fn f(a) { try { throw foo 3; } catch foo x { mark x; if (a == 1) { return 10; } if (a == 2) { throw bar 4; } } finally { mark 5; } mark 6; return 30; }");
        house.answers(0, 0, 0, 30).marks(3, 5, 6).answers(0, 0, 1, 10).marks(3, 5).fails(0, 0, 2, 13).marks(3, 5).failureAt(0, 0, 13, "throw bar 4;", 0, 0, 1, 0);
        // also behind one that no catch takes
        new House().with(0, "fn f(a) { try { throw foo 3; } catch bar x { mark 1; } finally { mark 5; } }").fails(0, 0, 0, 12).marks(5);
    }

    private static void cellBecomesTheCode() {
        House.sentence("1: the CELL becomes the CODE");
        House house = new House().with(1, "fn f(a) { on { fail a; } go { return cell; } return cell; } fn g(a) { return cell; } fn h(a) { on { a / 0; } go { } return cell; } fn k(a) { fail a; }");
        house.answers(1, 1, 0, 0).answers(1, 0, 33, 33).looks(9, 33).answers(1, 1, 0, 33).answers(1, 2, 5, 1).looks(9, 1).fails(1, 3, -9, -9).looks(9, -9).answers(1, 1, 0, -9);
        // all is well behind go, and the CELL stays
        house.answers(1, 0, 0, -9).looks(9, -9);
    }

    private static void innermostOn() {
        House.sentence("if the function has an on whose first B it is in: go's B of the innermost (all is well)");
        House house = new House().with(1, "fn f(a) { on { mark 1; on { mark 2; fail a; mark 9; } go { mark 3; } mark 4; } go { mark 8; } mark 5; return 6; }");
        house.answers(1, 0, 7, 6).marks(1, 2, 3, 4, 5).answers(1, 0, 0, 6).marks(1, 2, 9, 4, 5);
        // what go's B itself fails is the next one's
        new House().with(1, "fn f(a) { on { on { fail 1; } go { mark cell; fail 2; mark 9; } mark 9; } go { mark cell; } return 6; }").answers(1, 0, 0, 6).marks(1, 2);
        new House().with(1, "fn f(a) { on { } go { mark 9; } fail 4; }").fails(1, 0, 0, 4).marks();
        new House().with(1, "fn f(a) { on { fail 1; } go { fail 2; } }").fails(1, 0, 0, 2).failureAt(0, 1, 2, "fail 2;").looks(9, 2);
        new House().with(1, "fn f(a) { while (a) { on { a = a - 1; fail a; mark 9; } go { mark cell; } } return 1; }").answers(1, 0, 3, 1).marks(2, 1, 9);
    }

    private static void withoutAnOn() {
        House.sentence("else the function is left FAILING");
        House house = new House().with(1, "fn f(a) { mark 1; a / 0; mark 2; } fn g(a) { if (a) { while (1) { fail 5; } } mark 2; } fn h(a) { on { f(a); mark 3; } go { mark 4; } }");
        house.fails(1, 0, 3, 1).marks(1).fails(1, 1, 3, 5).marks();
        // an on of the function that called is another's
        house.answersNone(1, 2, 3).marks(1, 4).looks(9, 1);
        new House().with(1, "fn f(a) { on { g(a); mark 1; } go { mark 2; } } fn g(a) { h(a); mark 3; fail 0; } fn h(a) { fail 6; }").answersNone(1, 0, 0).marks(3, 1).looks(9, 6);
    }

    private static void failOfNumbers() {
        House.sentence("fail E: E a NUMBER (else SORT)");
        for (String no : new String[] {"none", "new[1]", "&f"}) {
            new House().with(1, "fn f(a) { fail " + no + "; } fn g(a) { on { fail " + no + "; } go { return cell; } }").fails(1, 0, 0, 4).looks(9, 4).failure(0, 1, 4, 10, 0, 0, 0, 0).answers(1, 1, 0, 4);
        }
        new House().with(1, "fn f(a) { fail 12; }").fails(1, 0, 0, 12).failure(0, 1, 12, 10, 0, 0, 0, 0);
    }

    private static void failOfNought() {
        House.sentence("fail E: 0: nothing at all");
        House house = new House().with(1, "fn f(a) { on { fail a; mark 1; } go { mark 2; } fail 0; fail 1 - 1; return 5; } fn g(a) { fail 7; }");
        house.fails(1, 1, 0, 7).answers(1, 0, 0, 5).marks(1).looks(9, 7).looks(2, 7);
    }

    private static void callsLeftFailing() {
        House.sentence("A call that is left FAILING: the CELL becomes that CODE; within an on likewise go; else the call's VALUE is none, and it goes on");
        House house = new House().with(1, "fn b(a) { fail a; return 1; } fn f(a) { let x = b(a); mark x == none; mark cell; return 8; } fn g(a) { on { mark 1; b(a); mark 2; } go { mark cell; } return 9; } fn h(a) { mark b(1) == b(2); let k = &b; mark k!(3) == none; return cell; } fn k(a) { return b(a); } fn l(a) { return 1 + b(a); }");
        house.answers(1, 1, 6, 8).marks(1, 6).looks(6, 0).looks(9, 6).answers(1, 1, 0, 8).marks(0, 6).answers(1, 2, 6, 9).marks(1, 6).answers(1, 2, 0, 9).marks(1, 2);
        house.answers(1, 3, 0, 3).marks(1, 1).answersNone(1, 4, 5).looks(0, 0).looks(9, 5);
        // it stands among other parts
        new House().with(1, "fn b(a) { fail a; } fn t(a, b, c) { mark a; mark b == none; mark c; } fn f(a) { let p = &b; t(5, b(1), 3); t(6, p!(1), 4); }").answersNone(1, 2, 0).marks(5, 1, 3, 6, 1, 4);
        // the none fails on its own
        house.fails(1, 5, 5, 4).looks(9, 4).failure(0, 1, 4).failure(1, -1);
        // what the function that fails called ahead has changed the CELL, too; its own CODE is the later
        new House().with(1, "fn f(a) { g(); return cell; } fn g() { h(); fail 2; } fn h() { fail 3; }").answers(1, 0, 0, 2);
        new House().with(1, "fn f(a) { on { g(); } go { return cell; } } fn g() { on { fail 2; } go { h(); } fail 0; } fn h() { fail 3; }").answersNone(1, 0, 0).looks(9, 3);
    }

    private static void callsLeftByABorder() {
        House.sentence("or by a border: the CELL becomes that CODE; within an on likewise go; else the call's VALUE is none, and it goes on");
        House house = new House().with(1, "fn f(a) { let x = throws.b(a); mark x == none; return cell; } fn g(a) { on { throws.b(a); mark 2; } go { mark cell; } return 9; } fn h(a) { values.b(a); exits.b(a); return cell; } fn k(a) { return throws.b(a); }")
            .with(0, "fn b(a) { throw foo a; }").with(2, "fn b(a) { return bad foo(a); }").with(3, "fn b(a) { a / 0; }");
        house.answers(1, 0, 6, 9).marks(1).looks(6, 1).looks(9, 9).answers(1, 1, 6, 9).marks(9);
        new House().with(1, "fn t(a, b, c) { mark a; mark b == none; mark c; } fn f(a) { t(5, throws.b(1), 3); t(6, values.b(1), 4); t(7, exits.b(1), 8); }").with(0, "fn b(a) { throw foo a; }").with(2, "fn b(a) { return bad foo(a); }").with(3, "fn b(a) { a / 0; }").answersNone(1, 1, 0).marks(5, 1, 3, 6, 1, 4, 7, 1, 8).looks(6, 3);
        house.x.entry(0, 1, 12, -4);
        house.x.entry(3, 1, 0, 77);
        house.answers(1, 0, 6, -4).marks(1).answers(1, 1, 6, 9).marks(-4).looks(9, -4).answers(1, 2, 6, 77).looks(6, 2).answersNone(1, 3, 6).looks(9, -4);
    }

    private static void comesInPlace() {
        House.sentence("2: a VALUE that FAILS comes in place of what was to be worked out; a variable may have one, a function answer one");
        House house = new House().with(2, "fn f(a) { let x = 1 / a; mark 1; return x; } fn g(a) { let x = f(a); mark tag(x); let y = x; mark tag(y); x = 5; return x; } fn h(a) { f(a); return 3; } fn k(a) { return f(a); }");
        house.fails(2, 0, 0, 1).marks(1).failureAt(0, 2, 1, "let x = 1 / a;", 0, 0, 0, 0).answers(2, 0, 1, 1).answers(2, 1, 0, 5).marks(1, 1, 1).answers(2, 2, 0, 3).looks(4, 1).fails(2, 3, 0, 1).failureAt(0, 2, 1, "let x = 1 / a;");
    }

    private static void badWithItsValue() {
        House.sentence("bad NAME ( E ): such a one, with that VALUE");
        String[] values = {"none", "a", "new[2]", "&f"};
        for (int i = 0; i < 4; i++) {
            new House().with(2, "fn f(a) { return bad foo(" + values[i] + "); } fn g(a) { let x = bad zero(" + values[i] + "); return x; }")
                .fails(2, 0, 5, 12).failure(0, 2, 12, 10, 0, 0, i, 0).fails(2, 1, 5, 1).failureAt(0, 2, 1, "let x = bad zero", 0, 0, i, 1);
        }
        new House().with(2, "fn f(a) { return bad foo(bad bar(a)); }").fails(2, 0, 5, 13).looks(2, 2);
    }

    private static void partsThatFail() {
        House.sentence("Of signs, calls, new, size, [ ], tag's and bad's: a part that FAILS is what comes of it, the rest isn't worked out, nothing is called");
        String[] parts = {"v + m()", "v * m()", "v == m()", "v < m()", "-v", "m(v, m())", "m(v)", "v!(m())", "throws.m(v, m())", "new[v]", "size(v)", "v[m()]", "x[v]", "bad bar(v)", "(v)", "v else v", "v - m() * m()", "v % m() / m()"};
        for (String part : parts) {
            House house = new House().with(2, "fn f(a) { let v = bad foo(7); let x = new[3]; let y = " + part + "; mark tag(y); return y; } fn m(a) { mark 99; return 1; }").with(0, "fn m(a) { mark 98; }");
            house.fails(2, 0, 0, 12).marks(12).failureAt(0, 2, 12, "let v = bad foo(7);", 0, 0, 1, 0).looks(5, 0);
        }
        // what stands ahead of it is worked out
        String[] behind = {"m() + v", "m() * v", "m() != v", "m() >= v", "m(m(), v, m())", "h!(m(), v, m())", "throws.m(m(), v)"};
        for (String part : behind) {
            House house = new House().with(2, "fn f(a) { let v = bad foo(7); let h = &m; let y = " + part + "; mark tag(y); return y; } fn m(a) { mark 99; return 1; }").with(0, "fn m(a) { mark 98; }");
            house.fails(2, 0, 0, 12).marks(99, 12).looks(5, 0);
        }
        // the first that FAILS of two
        new House().with(2, "fn f(a) { return bad foo(1) + bad bar(2); } fn g(a) { return f(bad bar(1), bad foo(2)); } fn h(a) { let x = bad bar(3); return x[bad foo(1)]; }").fails(2, 0, 0, 12).fails(2, 1, 0, 13).fails(2, 2, 0, 13);
    }

    private static void tags() {
        House.sentence("(but tag ( E ) is the number of a TAG, 0 of what doesn't FAIL)");
        House house = new House().with(2, "fn f(a) { mark tag(bad foo(1)); mark tag(1 / 0); mark tag(none); mark tag(0); mark tag(5); mark tag(new[1]); mark tag(&f); mark tag(bad machine(1)); mark tag(tag(bad foo(1))); mark tag(bad foo(1) else 2); return tag(no()); }");
        house.answers(2, 0, 0, 3).marks(12, 1, 0, 0, 0, 0, 0, 11, 0, 0).looks(4, 0);
        // one that was turned has the TAG that it became
        house = new House().with(2, "fn f(a) { return tag(throws.f(a)); }").with(0, "fn f(a) { throw foo a; }").answers(2, 0, 0, 9);
        house.x.entry(0, 2, 12, 2);
        house.answers(2, 0, 0, 2);
    }

    private static void elseInPlace() {
        House.sentence("Q else E: E in place of one that FAILS");
        House house = new House().with(2, "fn f(a) { return 6 / a else m(); } fn m() { mark 1; return 7; } fn g(a) { return none else m(); } fn h(a) { return bad foo(1) else bad bar(2) else 3; } fn k(a) { return bad foo(1) else bad bar(2); } fn l(a) { return (bad foo(1) else 2) + 3; } fn n(a) { return 4 + (1 / 0) else 5; }");
        house.answers(2, 0, 2, 3).marks().answers(2, 0, 0, 7).marks(1).answersNone(2, 2, 0).marks().answers(2, 3, 0, 3).fails(2, 4, 0, 13).answers(2, 5, 0, 5).answers(2, 6, 0, 5);
        house.looks(4, 0);
    }

    private static void elseWithinParts() {
        House.sentence("Q else E: E in place of one that FAILS, and of nothing else");
        String[] parts = {"1 / 0", "7 % 0", "none + 1", "1 - none", "none < 1", "100000000000000000 + 1", "-none", "new[none]", "new[401]", "size(1)", "size(none)", "x[9]", "x[none]", "n[0]", "a[0]", "no()", "no(1, 2)", "&no", "n!(1)", "a!(1, 2)", "throws.no(1)", "throws.b(1)", "exits.h(1)", "exits.b()",
            "throws.m(v)", "codes.m(2147483648)", "codes.m(1, 2, 2147483648)", "y[0]", "1 + v", "v + 1", "1 < v", "v >= 1", "2 * v", "v / 2", "1 == v", "v != v", "-v", "new[v]", "size(v)", "x[v]", "v[1]", "m(1, v, 2)", "p!(1, v)", "v!(1)", "throws.m(1, v)", "bad foo(v)", "bad foo(1)", "v", "m(1 + v)", "1 + 2 * v", "bad foo(1) else v"};
        for (String part : parts) {
            House house = new House().with(2, "fn m(a) { return a; } fn g(a, b, c, d) { return a * 1000 + b * 100 + c * 10 + d; } fn f(a) { let v = bad foo(7); let x = new[2]; let n = none; let p = &m; let y = exits.y(); return g(3, PART else 2, PART else 5, 4); } "
                .replace("PART", part) + "fn h(a) { let v = bad foo(7); let x = new[2]; let n = none; let p = &m; let y = exits.y(); return 7 + (PART else 2) * 10 - (3 - (PART else 2)); }".replace("PART", part)
                + "fn k(a) { let v = bad foo(7); let x = new[2]; let n = none; let p = &m; let y = exits.y(); return g(3, 0 < tag(PART), 5, 4); }".replace("PART", part))
                .with(0, "fn b(a) { throw foo a; } fn m(a) { }").with(3, "fn h(a) { return 0.5; } fn b() { exit foo 1; } fn y() { let y = new[1]; y[0] = 0.5; return y; }").with(1, "fn m(a) { }");
            house.answers(2, 2, 1, 3254).answers(2, 3, 1, 26).answers(2, 4, 1, 3154).looks(4, 0);
        }
    }

    private static final String LEAVING = "fn m() { mark 70; return 1; } fn v(a) { return bad foo(a); } ";

    private static void leavesAtAQuestion() {
        House.sentence("Where one comes to a question, the function is left with it as its answer");
        House house = new House().with(2, LEAVING + "fn f(a) { if (v(3)) { mark 1; } else { mark 2; } mark 4; } fn g(a) { while (v(3)) { mark 1; } mark 4; } fn h(a) { while (1 / a) { a = a - 1; } mark 4; } fn k(a) { return tag(f(a)); }");
        house.fails(2, 2, 0, 12).marks().failureAt(0, 2, 12, "return bad foo(a);", 0, 0, 1, 1).fails(2, 3, 0, 12).marks().fails(2, 4, 1, 1).marks().answers(2, 5, 0, 12).marks();
        house.looks(4, 0);
    }

    private static void leavesAtAMark() {
        House.sentence("Where one comes to a mark, the function is left with it as its answer");
        House house = new House().with(2, LEAVING + "fn f(a) { mark 1; mark v(3); mark 4; } fn g(a) { return tag(f(a)); }");
        house.fails(2, 2, 0, 12).marks(1).failureAt(0, 2, 12, "return bad foo(a);", 0, 0, 1, 1).answers(2, 3, 0, 12).marks(1).looks(4, 0);
    }

    private static void leavesAtACellsPut() {
        House.sentence("Where one comes to a cell's = (as x, index or VALUE), the function is left with it as its answer");
        House house = new House().with(2, LEAVING + "fn f(a) { let x = v(3); x[m()] = m(); mark 4; } fn g(a) { let x = new[2]; x[v(3)] = m(); mark 4; } fn h(a) { let x = new[2]; x[0] = v(3); mark 4; } fn k(x) { x[0] = v(3); } fn l(a) { let x = new[2]; x[0] = 5; k(x); return x[0]; }");
        house.fails(2, 2, 0, 12).marks(70, 70).failureAt(0, 2, 12, "return bad foo(a);", 0, 0, 1, 1).fails(2, 3, 0, 12).marks(70).fails(2, 4, 0, 12).marks().answers(2, 6, 0, 5).looks(4, 1);
    }

    private static void dropped() {
        House.sentence("E ; that FAILS is DROPPED");
        House house = new House().with(2, LEAVING + "fn f(a) { v(1); bad foo(1); 1 / 0; let x = v(2); x; x; x = v(3); tag(x); x else 1; none; f2(); return 5; } fn f2() { v(1); } fn g(a) { 1; m(); }");
        house.answers(2, 2, 0, 5).looks(4, 6).answersNone(2, 4, 0).looks(4, 0).looks(3, 1);
    }

    private static void withAndEnd() {
        House.sentence("with B end B: the second B is done however the first one is left");
        House house = new House().with(2, "fn f(a) { with { mark 1; if (a == 1) { return 10; } if (a == 2) { mark bad foo(3); } if (a == 3) { return bad foo(1); } if (a == 4) { if (none) { } } 1 / 0; } end { mark 4; } mark 5; return 30; }");
        house.answers(2, 0, 0, 30).marks(1, 4, 5).answers(2, 0, 1, 10).marks(1, 4).fails(2, 0, 2, 12).marks(1, 4).fails(2, 0, 3, 12).marks(1, 4).fails(2, 0, 4, 4).marks(1, 4);
        new House().with(2, "fn f(a) { with { return a; } end { a = 9; } }").answers(2, 0, 5, 5);
        new House().with(2, "fn f(a) { while (a) { with { a = a - 1; if (a == 1) { return 7; } } end { mark a; } } }").answers(2, 0, 4, 7).marks(3, 2, 1);
    }

    private static void innermostOpen() {
        House.sentence("3: an EXIT is made: out to the innermost open of that NAME whose first B it comes from: the variable is its VALUE, then's B is done");
        House house = new House().with(3, "fn f(a) { open foo x { open foo y { open bar z { exit foo a; } then { mark 9; } mark 9; } then { mark y; } mark 2; } then { mark 9; } mark 3; }");
        house.answersNone(3, 0, 7).marksOf(3, 7, 2, 3);
        // not from its own then, and only of its very NAME
        new House().with(3, "fn f(a) { open foo x { exit foo 1; } then { exit foo 2; } }").fails(3, 0, 0, 8).failureAt(0, 3, 8, "exit foo 2;");
        new House().with(3, "fn f(a) { open foo x { open foo x { exit foo 1; } then { exit foo x + 1; } } then { return x; } }").answersReal(3, 0, 0, 2);
        new House().with(3, "fn f(a) { open machine x { open any x { open nothing x { a = 1 / 0; } then { } } then { } } then { } }").fails(3, 0, 0, 1);
        new House().with(3, "fn f(a) { open zero x { a = 1 / 0; } then { return x == none; } }").answersReal(3, 0, 0, 1);
        new House().with(3, "fn f(a) { let x = 5; open foo x { } then { mark 9; } return x; }").answersReal(3, 0, 0, 5).marks();
        String[] values = {"none", "a", "w", "&f"};
        for (int i = 0; i < 4; i++) {
            new House().with(3, "fn f(a) { let w = new[1]; open foo x { exit foo " + values[i] + "; } then { return x == " + values[i] + "; } }").answersReal(3, 0, 6, 1);
        }
    }

    private static void openOfFunctionsThatCalled() {
        House.sentence("also in functions that called");
        House house = new House().with(3, "fn f(a) { open foo x { g(a); mark 9; } then { return x; } } fn g(a) { h(a); mark 9; } fn h(a) { exit foo a; mark 9; } fn k(a) { open foo x { let p = &h; p!(a); } then { return x + 1; } } fn l(a) { open foo x { } then { } h(a); }");
        house.answersReal(3, 0, 5, 5).marks().looks(7, 3).answersReal(3, 3, 5, 6).fails(3, 4, 5, 8);
    }

    private static void notOverABorder() {
        House.sentence("but not over a border");
        House house = new House().with(3, "fn f(a) { open foo x { throws.f(a); } then { mark 1; } } fn g(a) { exit foo a; } fn h(a) { open lost x { throws.f(a); } then { mark 1; } } fn k(a) { open border x { throws.f(a); } then { mark 2; } }").with(0, "fn f(a) { exits.g(a); }");
        house.fails(3, 0, 5, 9).marks().failure(1, 0, 9).failure(2, 3, 8).failure(3, -1).fails(3, 2, 5, 9).marks().answersNone(3, 3, 5).marksOf(3, 2);
    }

    private static void exitsThatAreLost() {
        House.sentence("exit NAME E without such an open: LOST in its place (with none), out to the innermost open of LOST");
        House house = new House().with(3, "fn f(a) { exit foo a; } fn g(a) { open lost x { open bar y { f(a); } then { mark 9; } } then { mark x == none; return 4; } } fn h(a) { open lost x { open lost y { exit foo a; } then { return 1; } } then { return 2; } } fn k(a) { open lost x { exit lost a; } then { return x; } } fn l(a) { exit lost a; }");
        house.fails(3, 0, 5, 8).failureAt(0, 3, 8, "exit foo a; } fn g", 0, 0, 0, 0).answersReal(3, 1, 5, 4).marksOf(3, 1).answersReal(3, 2, 5, 1).answersReal(3, 3, 5, 5);
        house.fails(3, 4, 5, 8).failure(0, 3, 8);
        House.due("with none", house.x.failure(0, 5), 0);
    }

    private static void exitsWithoutAnOpen() {
        House.sentence("an EXIT without such an open (LOST, too, a machine's, one by an ENTRY) goes out of the part as what it is");
        House house = new House().with(3, "fn f(a) { a = 1 / 0; } fn g(a) { open lost x { f(a); } then { mark 9; } } fn h(a) { open lost x { throws.f(a); } then { mark 9; } } fn k(a) { exit foo a; }").with(0, "fn f(a) { throw foo a; } fn g(a) { exits.k(a); } fn h(a) { exits.f(a); }");
        house.fails(3, 0, 1, 1).fails(3, 1, 1, 1).marks();
        house.x.entry(0, 3, 12, 12);
        house.fails(3, 2, 1, 12).marks().failureAt(0, 3, 12, "throws.f(a);", 1, 0, 1, 2);
        house.fails(0, 1, 1, 9).failure(1, 3, 8).fails(0, 2, 1, 9).failure(1, 3, 1);
        house.x.entry(0, 3, 12, 8);
        house.answersNone(3, 2, 1).marksOf(3, 9);
    }

    private static void cleanAndDo() {
        House.sentence("clean B do B: the first B is done behind the second one, however that is left");
        House house = new House().with(3, "fn f(a) { clean { mark 4; } do { mark 1; if (a == 1) { return 10; } if (a == 2) { exit foo 3; } if (a == 3) { a = 1 / 0; } } mark 5; return 30; } fn g(a) { open foo x { f(a); } then { mark x; } }");
        house.answersReal(3, 0, 0, 30).marksOf(3, 1, 4, 5).answersReal(3, 0, 1, 10).marksOf(3, 1, 4).fails(3, 0, 2, 8).marksOf(3, 1, 4).fails(3, 0, 3, 1).marksOf(3, 1, 4).answersNone(3, 1, 2).marksOf(3, 1, 4, 3);
        new House().with(3, "fn f(a) { clean { a = 9; } do { return a; } }").answersReal(3, 0, 5, 5);
        new House().with(3, "fn f(a) { while (a) { clean { mark a; } do { a = a - 1; if (a == 1) { return 7; } } } }").answersReal(3, 0, 4, 7).marksOf(3, 3, 2, 1);
        new House().with(3, "fn f(a) { clean { mark 1; } do { clean { mark 2; } do { clean { mark 3; } do { exit foo 1; } } } }").fails(3, 0, 0, 8).marksOf(3, 3, 2, 1);
    }

    private static void takesThePlaceByReturn() {
        House.sentence("A finishing or cleaning B that is left by a return: that takes the place of what was under way; .. else it is gone");
        new House().with(0, "fn f(a) { try { if (a) { throw foo 1; } return 2; } finally { return 3; } } fn g(a) { try { try { throw foo 1; } finally { return 3; } } finally { throw bar 2; } }").answers(0, 0, 0, 3).answers(0, 0, 1, 3).failure(0, -1).fails(0, 1, 0, 13).failureAt(0, 0, 13, "throw bar 2;", 0, 0);
        new House().with(2, "fn f(a) { with { if (a) { return bad foo(1); } return 2; } end { return 3; } } fn g(a) { with { return bad foo(1); } end { return none; } }").answers(2, 0, 0, 3).answers(2, 0, 1, 3).answersNone(2, 1, 0).failure(0, -1);
        new House().with(3, "fn f(a) { clean { return 3; } do { if (a) { a = 1 / 0; } return 2; } } fn g(a) { open foo x { clean { return 3; } do { exit foo 1; } } then { mark 9; } }").answersReal(3, 0, 0, 3).answersReal(3, 0, 1, 3).answersReal(3, 1, 0, 3).marks();
    }

    private static void takesThePlaceByFailing() {
        House.sentence("or something that fails: that takes the place of what was under way; a FAILURE that was under way lies under a FAILURE that takes its place");
        House house = new House().with(0, "fn f(a) { try { if (a == 1) { throw foo 1; } if (a == 2) { return 2; } } finally { a = 1 / 0; } } fn g(a) { try { f(a); } catch zero x { return 5; } }");
        house.fails(0, 0, 0, 1).failureAt(0, 0, 1, "a = 1 / 0;", 0, 0, 0, 0).under(0, 0, -1).fails(0, 0, 2, 1).failureAt(0, 0, 1, "a = 1 / 0;", 0, 0).under(0, 0, -1);
        house.fails(0, 0, 1, 1).failureAt(0, 0, 1, "a = 1 / 0;", 0, 1, 0, 0).underAt(0, 0, 0, 12, "throw foo 1;", 0, 0, 1, 0).under(0, 1, -1).answers(0, 1, 1, 5);
        house = new House().with(2, "fn f(a) { with { if (a == 1) { return bad foo(1); } if (a == 2) { return 2; } } end { return 1 / 0; } } fn g(a) { with { return bad foo(1); } end { bad bar(2); } } fn h(a) { with { return bad foo(1); } end { mark bad bar(2); } }");
        house.fails(2, 0, 0, 1).failureAt(0, 2, 1, "return 1 / 0;", 0, 0).fails(2, 0, 2, 1).failureAt(0, 2, 1, "return 1 / 0;", 0, 0).fails(2, 0, 1, 1).failureAt(0, 2, 1, "return 1 / 0;", 0, 1).underAt(0, 0, 2, 12, "if (a == 1) { @return bad foo(1);", 0, 0, 1, 0);
        // E ; that FAILS is DROPPED there, too, and leaves nothing
        house.fails(2, 1, 0, 12).looks(4, 1).fails(2, 2, 0, 13).underAt(0, 0, 2, 12, "fn h(a) { with { @return bad foo(1);", 0, 0, 1, 2);
        house = new House().with(3, "fn f(a) { clean { a = 1 / 0; } do { if (a == 1) { exit lost 1; } if (a == 2) { return 2; } } } fn g(a) { open bar x { clean { exit bar 4; } do { exit trap 1; } } then { return x; } } fn h(a) { open trap y { open bar x { clean { exit bar 4; } do { exit trap 1; } } then { return x; } } then { mark 9; } }");
        house.fails(3, 0, 0, 1).failure(0, 3, 1, 18, 0, 0).fails(3, 0, 2, 1).failure(0, 3, 1, 18, 0, 0).fails(3, 0, 1, 1).failure(0, 3, 1, 18, 0, 1).underAt(0, 0, 3, 8, "exit lost 1;", 0, 0, 0, 0);
        house.answersReal(3, 1, 0, 4).answersReal(3, 2, 0, 4).marks();
    }

    private static void takenPlaceIsHeld() {
        House.sentence("that takes the place of what was under way: also where something holds it");
        new House().with(0, "fn f(a) { try { try { return 1; } finally { throw foo 2; } } catch foo x { mark x; } return 9; }").answers(0, 0, 0, 9).marks(2);
        new House().with(0, "fn f(a) { try { try { throw bar 1; } finally { throw foo 2; } } catch bar x { mark 8; } catch foo x { mark x; } return 9; }").answers(0, 0, 0, 9).marks(2);
        new House().with(0, "fn f(a) { while (a) { a = a - 1; try { try { return 1; } finally { if (a) { throw foo a; } } } catch foo x { mark x; } } }").answers(0, 0, 3, 1).marks(2, 1);
        new House().with(3, "fn f(a) { open foo x { clean { exit foo 2; } do { return 1; } } then { mark x; } return 9; }").answersReal(3, 0, 0, 9).marksOf(3, 2);
        new House().with(3, "fn f(a) { open bar y { open foo x { clean { exit foo 2; } do { exit bar 1; } } then { mark x; } mark 3; } then { mark 8; } return 9; }").answersReal(3, 0, 0, 9).marksOf(3, 2, 3);
        // what is held within the finishing B leaves under way what was
        new House().with(0, "fn f(a) { try { return 1; } finally { try { throw foo 2; } catch foo x { mark x; } mark 3; } }").answers(0, 0, 0, 1).marks(2, 3);
        new House().with(0, "fn f(a) { try { throw bar 1; } finally { g(); mark 3; } } fn g() { try { return 5; } finally { mark 2; } }").fails(0, 0, 0, 12).marks(2, 3).under(0, 0, -1);
        new House().with(2, "fn f(a) { with { return 1; } end { g(); bad foo(2); mark 3; } } fn g() { return bad bar(1); }").answers(2, 0, 0, 1).marks(3).looks(4, 2);
        new House().with(3, "fn f(a) { open bar y { clean { open bar x { exit bar 2; } then { mark x; } } do { exit bar 1; } } then { mark y; } return 9; }").answersReal(3, 0, 0, 9).marksOf(3, 2, 1);
    }

    private static void inFrontOfThoseUnder() {
        House.sentence("(in front of those under it already)");
        // baz leaves the inner finally, then the outer one
        House house = new House().with(0, "fn f(a) { try { throw foo 1; } finally { try { throw bar 2; } finally { throw baz 3; } } } fn g(a) { try { try { throw foo 1; } finally { throw bar 2; } } finally { throw baz 3; } }");
        house.fails(0, 0, 0, 14).failure(0, 0, 14).under(0, 0, 0, 12).under(0, 1, 0, 13).under(0, 2, -1);
        House.due("how many", house.x.failure(0, 4), 2);
        house.fails(0, 1, 0, 14).under(0, 0, 0, 13).under(0, 1, -1);
        House.due("how many", house.x.failure(0, 4), 1);
        House.due("and under that one", house.x.under(0, 0, 4), 1);
        house = new House().with(3, "fn f(a) { clean { clean { a = 1 / 0; } do { size(none); } } do { no(); } }").fails(3, 0, 0, 1).underAt(0, 0, 3, 3, "no();").underAt(0, 1, 3, 3, "size(none);").under(0, 2, -1);
        house = new House().with(2, "fn f(a) { with { return bad foo(1); } end { with { return bad bar(2); } end { return bad baz(3); } } }").fails(2, 0, 0, 14).under(0, 0, 2, 12).under(0, 1, 2, 13).under(0, 2, -1);
    }

    private static void notUnderItself() {
        House.sentence("not under itself");
        House house = new House().with(2, "fn f(a) { let v = bad foo(1); with { return v; } end { return v; } } fn g(a) { let v = bad foo(1); let w = bad bar(2); with { return v; } end { with { return w; } end { return v; } } }");
        house.fails(2, 0, 0, 12).failure(0, 2, 12, 10, 0, 0).under(0, 0, -1);
        house.fails(2, 1, 0, 12).failureAt(0, 2, 12, "fn g(a) { @let v = bad foo(1);", 0, 1).under(0, 0, 2, 13).under(0, 1, -1);
    }

    private static void manyUnder() {
        House.sentence("a FAILURE that was under way lies under a FAILURE that takes its place: of many, each has its own");
        House house = new House().with(0, "fn f(a) { while (a) { try { try { throw foo a; } finally { throw bar a; } } catch bar x { } a = a - 1; } try { throw foo 1; } finally { throw baz 2; } }");
        house.fails(0, 0, 400, 14).failureAt(0, 0, 14, "throw baz 2;", 0, 1, 1, 0).underAt(0, 0, 0, 12, "throw foo 1;", 0, 0, 1, 0).under(0, 1, -1);
        // each FRAME's finally adds the one that was under way there
        house = new House().with(0, "fn f(a) { try { try { throw k1 a; } finally { try { throw k2 a; } finally { if (a) { f(a - 1); } throw k3 a; } } } finally { mark a; } }");
        house.fails(0, 0, 23, 14).looks(3, 24);
        House.due("how many", house.x.failure(0, 4), 48);
        for (int k = 0; k < 48; k++) {
            house.under(0, k, 0, k % 2 == 0 ? 12 : 13);
        }
        house.under(0, 48, -1);
        // a NUMBER that a return brings is no FAILURE: 0 and 1 are left alone
        house = new House().with(2, "fn f(a) { let v = bad foo(1); let w = bad bar(2); g(a); if (a) { return w; } return v; } fn g(a) { with { return bad baz(3); } end { return a; } }");
        house.fails(2, 0, 0, 12).failure(0, 2, 12, 10, 0, 0).under(0, 0, -1).fails(2, 0, 1, 13);
        House.due("none under it", house.x.failure(0, 4), 0);
    }

    private static void manyGuards() {
        House.sentence("all is well: what is behind it holds as ever, however often");
        String[] turns = {"try { a = a - 1; } finally { }", "try { a = a - 1; throw foo 1; } catch foo x { }", "try { a = a - 1; throw foo 1; } catch foo x { } finally { }", "try { a = a - 1; } catch foo x { }", "try { g(); } catch foo x { } a = a - 1;", "h(); a = a - 1;"};
        for (String turn : turns) {
            new House().with(0, "fn f(a) { while (a) { " + turn + " } try { try { throw foo 5; } finally { mark 1; } } catch foo x { return x; } } fn g() { try { throw foo 1; } finally { } } fn h() { try { return 1; } finally { } }").answers(0, 0, 500, 5).marks(1);
        }
        for (String turn : new String[] {"on { a = a - 1; } go { }", "on { a = a - 1; fail 1; } go { }", "h(); a = a - 1;", "on { g(); } go { } a = a - 1;"}) {
            new House().with(1, "fn f(a) { while (a) { " + turn + " } on { fail 5; } go { return cell; } } fn g() { fail 1; } fn h() { on { return 1; } go { } }").answers(1, 0, 500, 5);
        }
        for (String turn : new String[] {"with { a = a - 1; } end { }", "h(); a = a - 1;", "g(); a = a - 1;"}) {
            new House().with(2, "fn f(a) { while (a) { " + turn + " } with { return 5; } end { mark 1; } } fn g() { with { mark none; } end { } } fn h() { with { return 1; } end { } }").answers(2, 0, 500, 5).marks(1);
        }
        for (String turn : new String[] {"clean { } do { a = a - 1; }", "open foo x { a = a - 1; } then { }", "open foo x { a = a - 1; exit foo 1; } then { }", "open foo x { g(); } then { } a = a - 1;", "h(); a = a - 1;"}) {
            new House().with(3, "fn f(a) { while (a) { " + turn + " } open foo x { clean { mark 1; } do { exit foo 5; } } then { return x; } } fn g() { clean { } do { exit foo 1; } } fn h() { clean { } do { return 1; } }").answersReal(3, 0, 500, 5).marksOf(3, 1);
        }
    }

    private static final String[] FAILING = {"none + 1;", "7 < none;", "-none;", "1 / 0;", "new[none];", "size(1);", "size(none);", "x[none];", "x[9];", "n[0];", "x[9] = 1;", "x[none] = 1;", "n[0] = 1;", "no(1, 2);", "n!(1);", "a!(1, 2);", "&no;", "mark none;", "if (none) { }", "while (none) { }",
        "AWAY.no(1, 2);", "AWAY.b(1, 2);", "g(1, 1 / 0);", "7 + (8 + (9 + none));", "g(1, 2, n[0]);", "7 + AWAY.b(1);"};

    private static void variablesStay() {
        House.sentence("all is well: the function's variables are what they were");
        String ahead = "fn g() { } fn f(a) { let x = new[2]; x[1] = 8; let n = none; let c = -2147483647 - 1; let b = 6; ";
        String behind = " mark a; mark b; mark x[1]; mark n == none; mark c; b = b + 1; return b; }";
        String other = "fn b(a) { return 1 / 0; }";
        for (String failing : FAILING) {
            new House().with(0, ahead + "try { " + failing.replace("AWAY", "codes") + " mark 99; } catch any e { }" + behind).with(1, other).answers(0, 1, 5, 7).marks(5, 6, 8, 1, -2147483648L);
            new House().with(1, ahead + "on { " + failing.replace("AWAY", "values") + " mark 99; } go { }" + behind).with(2, other).answers(1, 1, 5, 7).marks(5, 6, 8, 1, -2147483648L);
            new House().with(3, ahead + "open zero e { open index e { open nothing e { open sort e { open border e { " + failing.replace("AWAY", "throws") + " mark 99; } then { } } then { } } then { } } then { } } then { }" + behind).with(0, other).answersReal(3, 1, 5, 7).marksOf(3, 5, 6, 8, 1, -2147483648L);
            if (failing.contains("= 1") || failing.startsWith("mark") || failing.startsWith("if") || failing.startsWith("while")) {
                new House().with(2, ahead + "with { " + failing + " mark 99; } end { " + behind + " }").answers(2, 1, 5, 7).marks(5, 6, 8, 1, -2147483648L);
            }
        }
        for (String failing : new String[] {"-c;", "c - 1;", "c * 2;", "fail none;", "fail x;", "fail 3;", "fail &g;", "g(-c);"}) {
            new House().with(1, ahead + "on { " + failing + " mark 99; } go { }" + behind).answers(1, 1, 5, 7).marks(5, 6, 8, 1, -2147483648L);
        }
        new House().with(0, ahead + "try { throw foo 3; } catch foo e { }" + behind).answers(0, 1, 5, 7).marks(5, 6, 8, 1, -2147483648L);
        new House().with(3, ahead + "open lost e { exit foo 3; } then { }" + behind).answersReal(3, 1, 5, 7).marksOf(3, 5, 6, 8, 1, -2147483648L);
        new House().with(3, ahead + "open foo e { exit foo 3; } then { }" + behind).answersReal(3, 1, 5, 7).marksOf(3, 5, 6, 8, 1, -2147483648L);
    }
}
