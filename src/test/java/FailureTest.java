/** Section 3's FAILING, TONGUE by TONGUE, and promises 13 and 14. */
public final class FailureTest {
    public static void main(String[] args) {
        catching();
        finishing();
        kindsTold();
        codes();
        valuesThatFail();
        cellPutAsksInOrder();
        withEnd();
        exits();
        cleanings();
        lyingUnder();
        underInValues();
        places();
        House.close("FailureTest");
    }

    private static void catching() {
        House house = new House().with(0, "fn f(a) { try { g(a); mark 1; } catch zero x { mark 2; mark x == none; } catch foo y { mark 3; return y; } catch machine z { mark 4; } mark 5; return 6; } "
            + "fn g(a) { if (a == 0) { a = 1 / 0; } if (a == 1) { throw foo 77; } if (a == 2) { none(); } }".replace("none()", "nono()")
            + " fn h(a) { try { try { throw foo a; } catch bar x { mark 1; } mark 2; } catch any x { mark x; throw bar 8; } } "
            + "fn k(a) { try { throw foo 1; } catch foo x { throw foo 2; } catch foo x { mark 9; } }");
        house.answers(0, 0, 0, 6).marks(2, 1, 5);
        house.answers(0, 0, 1, 77).marks(3);
        house.answers(0, 0, 2, 6).marks(4, 5);
        house.answers(0, 0, 3, 6).marks(1, 5);
        house.fails(0, 2, 9, 13).marks(9).failureAt(0, 0, 13, "throw bar 8;", 0, 0, 1, 2);
        house.fails(0, 3, 9, 12).marks().failure(0, 0, 12);
        // the innermost try that has a catch for it, through functions
        house = new House().with(0, "fn f(a) { try { g(a); } catch any x { mark x; return 1; } return 2; } fn g(a) { try { h(a); } catch foo x { mark 50; } mark 51; } fn h(a) { throw bar a; }");
        house.answers(0, 0, 9, 1).marks(9);
    }

    private static void finishing() {
        House house = new House().with(0, "fn f(a) { try { mark 1; if (a == 1) { return 10; } if (a == 2) { throw foo 3; } } catch foo x { mark x; if (a == 2) { return 20; } } finally { mark 4; } return 30; } "
            + "fn g(a) { try { throw foo 1; } finally { mark 2; return a; } } fn h(a) { try { return 1; } finally { throw bar 5; } } "
            + "fn k(a) { while (a) { try { a = a - 1; if (a == 2) { return 5; } } finally { mark a; } } } "
            + "fn l(a) { try { try { return 1; } finally { mark 1; } } finally { mark 2; } } "
            + "fn m(a) { try { throw foo 1; } catch foo x { throw bar 2; } finally { mark 3; } }");
        house.answers(0, 0, 0, 30).marks(1, 4);
        house.answers(0, 0, 1, 10).marks(1, 4);
        house.answers(0, 0, 2, 20).marks(1, 3, 4);
        house.answers(0, 1, 8, 8).marks(2);
        house.fails(0, 2, 0, 13).failureAt(0, 0, 13, "throw bar 5;", 0, 0, 1, 2);
        house.answers(0, 3, 4, 5).marks(3, 2).answersNone(0, 3, 2).marks(1, 0);
        house.answers(0, 4, 0, 1).marks(1, 2);
        house.fails(0, 5, 0, 13).marks(3).failure(0, 0, 13);
        House.due("a caught one lies under nothing", house.x.failure(0, 4), 0);
    }

    private static void kindsTold() {
        House house = new House().with(0, "kind a under b; kind b under zero; fn f(n) { try { if (n == 1) { throw a 1; } if (n == 2) { throw b 2; } n = 1 / 0; } catch a x { return 1; } catch b x { return 2; } catch zero x { return 3; } }");
        house.answers(0, 0, 1, 1).answers(0, 0, 2, 2).answers(0, 0, 3, 3);
        String text = "fn f(n) { try { if (n == 1) { throw a 1; } if (n == 2) { throw b 2; } if (n == 3) { throw c 3; } n = 1 / 0; } catch zero x { return 3; } catch machine x { return 4; } catch any x { return 5; } }";
        house.with(0, text);
        house.answers(0, 0, 1, 3).answers(0, 0, 2, 3).answers(0, 0, 3, 5).answers(0, 0, 4, 3);
        house.with(0, "kind b under machine; kind zero under c;" + text);
        house.answers(0, 0, 1, 4).answers(0, 0, 2, 4).answers(0, 0, 3, 5).answers(0, 0, 4, 3);
        House.due("a FAULT", house.take(0, "kind a under c; kind a under a;") < 0, true);
        house.answers(0, 0, 1, 4);
        House own = new House().with(0, "kind zero under foo; fn f(n) { try { n = 1 / 0; } catch machine x { return 1; } catch foo x { return 2; } } fn g(n) { try { none + 1; } catch foo x { return 1; } catch machine x { return 2; } }");
        own.answers(0, 0, 0, 2).answers(0, 1, 0, 2);
        String all = "fn f(n) { try { g(n); } catch machine x { return 1; } catch any x { return 2; } } fn g(n) { if (n == 1) { throw zero 1; } if (n == 2) { throw index 1; } if (n == 3) { throw nothing 1; } "
            + "if (n == 4) { throw sort 1; } if (n == 5) { new[0 - 1]; } if (n == 6) { throw deep 1; } if (n == 7) { throw trap 1; } if (n == 8) { throw lost 1; } if (n == 9) { throw border 1; } "
            + "if (n == 10) { throw any 1; } throw machine 1; }";
        house = new House().with(0, all);
        for (int n = 1; n <= 11; n++) {
            house.answers(0, 0, n, n <= 7 || n == 11 ? 1 : 2);
        }
    }

    private static void codes() {
        House house = new House().with(1, "fn f(a) { on { mark 1; fail a; mark 2; } go { mark cell; } return cell; } fn g(a) { let x = h(a); mark x == none; return cell; } fn h(a) { fail a; return 5; } "
            + "fn k(a) { on { let x = h(a); mark 1; } go { mark 2; on { fail 8; } go { mark cell; } } } fn l(a) { on { on { fail 1; } go { fail 2; mark 9; } mark 9; } go { mark cell; } } "
            + "fn m(a) { fail none; } fn n(a) { on { 1 / 0; } go { return cell; } } fn o(a) { on { } go { mark 1; } fail 3; mark 2; } fn p(a) { on { h(a); } go { } return cell; } fn q(a) { return h(a) + 1; }");
        house.answers(1, 0, 7, 7).marks(1, 7).answers(1, 0, -7, -7).marks(1, -7).looks(9, -7);
        house.answers(1, 0, 0, -7).marks(1, 2);
        house.answers(1, 1, 6, 6).marks(1).looks(6, 0);
        house.answers(1, 1, 0, 6).marks(0);
        house.answersNone(1, 3, 5).marks(2, 8).answersNone(1, 3, 0).marks(1);
        house.answersNone(1, 4, 0).marks(2);
        house.fails(1, 5, 0, 4).failureAt(0, 1, 4, "fail none;", 0, 0, 0, 5).looks(9, 4);
        house.answers(1, 6, 0, 1).fails(1, 7, 0, 3).marks().answers(1, 8, 12, 12);
        house.fails(1, 9, 5, 4);
        // an on of the caller isn't the function's
        house = new House().with(1, "fn f(a) { on { g(a); mark 1; } go { mark 2; } } fn g(a) { h(a); mark 3; } fn h(a) { fail a; }");
        house.answersNone(1, 0, 4).marks(3, 1);
    }

    private static void valuesThatFail() {
        House house = new House().with(2, "fn f(a) { let b = bad foo(a); let c = b; b; c + mk(); mk() + c; mark tag(b); mark tag(a); mark tag(bad any(1) else 1); return c; } fn mk() { mark 70; return 1; } "
            + "fn g(a) { let b = bad foo(a); mk(b, mk()); b!(mk()); new[b]; size(b); b[mk()]; -b; tag(b); bad bar(b); (b); b == b; let x = new[1]; x[b]; return 5; } "
            + "fn h(a) { if (bad foo(1)) { mark 1; } mark 2; } fn k(a) { while (1) { mark bad foo(2); } } fn l(a) { let x = new[2]; x[0] = bad foo(3); mark 4; } "
            + "fn m(a) { let x = bad foo(1); x[mk()] = mk(); mark 4; } fn n(a) { let x = new[1]; x[bad foo(1)] = mk(); mark 4; } "
            + "fn o(a) { return bad a(1) else bad b(2) else 3; } fn p(a) { return (1 / 0 else 5) + (none[0] else 6); }".replace("none[0]", "size(none)"));
        house.fails(2, 0, 3, 12).failure(0, 2, 12, 10, 0, 0, 1, 0).looks(4, 3).marks(70, 12, 0, 0);
        // mk, b!, new, size, b[], -, bad, (b), ==, x[b]: all but tag are DROPPED
        house.answers(2, 2, 3, 5).looks(4, 10).marks();
        house.fails(2, 3, 0, 12).marks().fails(2, 4, 0, 12).marks().fails(2, 5, 0, 12).marks();
        house.fails(2, 6, 0, 12).marks(70, 70).fails(2, 7, 0, 12).marks(70);
        house.answers(2, 8, 0, 3).answers(2, 9, 0, 11);
    }

    /** x [ i ] = E in VALUES: all are worked out, then x is asked, i, and only then what E is. */
    private static void cellPutAsksInOrder() {
        House house = new House().with(2, "fn f(a) { a[0] = bad foo(1); mark 9; } fn g(a) { let x = none; x[0] = bad foo(1); mark 9; } fn h(a) { a[bad foo(mk())] = mk(); mark 9; } "
            + "fn k(a) { let x = new[2]; x[a] = bad foo(1); mark 9; } fn l(a) { let x = new[2]; x[none] = bad foo(mk()); mark 9; } fn m(a) { let x = new[2]; x[bad foo(1)] = bad bar(2); mark 9; } "
            + "fn n(a) { let x = bad bar(1); x[bad foo(2)] = bad baz(3); mark 9; } fn o(a) { let x = bad foo(1); x[none] = mk(); mark 9; } fn p(a) { with { a[1] = bad foo(1); } end { mark 5; } } "
            + "fn q(a) { with { return bad foo(1); } end { a[2] = bad bar(2); } } fn mk() { mark 70; return 1; }");
        house.fails(2, 0, 0, 4).failureAt(0, 2, 4, "a[0] = bad foo(1);", 0, 0, 0, 0).failure(1, -1).marks().looks(2, 3).looks(4, 0);
        house.fails(2, 1, 0, 3).failureAt(0, 2, 3, "x[0] = bad foo(1);", 0, 0, 0, 1).marks().looks(2, 4);
        house.fails(2, 2, 0, 4).failureAt(0, 2, 4, "a[bad foo(mk())]", 0, 0, 0, 2).marks(70, 70);
        house.fails(2, 3, 2, 2).failureAt(0, 2, 2, "x[a] =", 0, 0, 0, 3).fails(2, 3, -1, 2).fails(2, 3, 401, 2).looks(2, 5);
        house.fails(2, 3, 1, 12).failureAt(0, 2, 12, "x[a] =", 0, 0, 1, 3).marks().looks(2, 4);
        house.fails(2, 4, 0, 4).failureAt(0, 2, 4, "x[none] = bad", 0, 0, 0, 4).marks(70);
        house.fails(2, 5, 0, 12).failureAt(0, 2, 12, "x[bad foo(1)] =", 0, 0, 1, 5).marks();
        house.fails(2, 6, 0, 13).failureAt(0, 2, 13, "let x = bad bar(1);", 0, 0, 1, 6).marks();
        house.fails(2, 7, 0, 12).failure(0, 2, 12).marks(70);
        house.fails(2, 8, 0, 4).failureAt(0, 2, 4, "a[1] =", 0, 0, 0, 8).marks(5);
        house.fails(2, 9, 0, 4).failureAt(0, 2, 4, "a[2] =", 0, 1, 0, 9).underAt(0, 0, 2, 12, "fn q(a) { with { @return bad foo(1);", 0, 0, 1, 9).under(0, 1, -1);
        // an array of another TONGUE: asked likewise, and what FAILS isn't put there
        house = new House().with(2, "fn f(a) { let x = throws.g(a); x[1] = bad foo(1); } fn g(x, i) { x[i] = bad foo(1); }")
            .with(0, "fn g(a) { return new[a]; } fn h(a) { let x = new[2]; x[0] = 5; try { values.g(x, a); } catch border e { mark e; } catch foo e { mark 8; } return x[0]; }");
        house.fails(2, 0, 1, 2).failureAt(0, 2, 2, "x[1] =", 0, 0, 0, 0).fails(2, 0, 2, 12).failureAt(0, 2, 12, "x[1] =", 0, 0, 1, 0);
        house.answers(0, 1, 0, 5).marks(1);
        house.x.entry(2, 0, 2, 12);
        house.answers(0, 1, 2, 5).marks(8).answers(0, 1, 1, 5).marks(1);
    }

    private static void withEnd() {
        House house = new House().with(2, "fn f(a) { with { mark 1; if (a == 1) { return 10; } if (a == 2) { mark bad foo(3); } } end { mark 4; } return 30; } "
            + "fn g(a) { with { return 1; } end { return 2; } } fn h(a) { with { return 1; } end { 1 / 0; mark none; } } "
            + "fn k(a) { with { return bad foo(1); } end { return 2; } } fn l(a) { with { 1 / 0; } end { mark 5; } }");
        house.answers(2, 0, 0, 30).marks(1, 4).answers(2, 0, 1, 10).marks(1, 4).fails(2, 0, 2, 12).marks(1, 4);
        house.answers(2, 1, 0, 2).fails(2, 2, 0, 4).looks(4, 1).failure(0, 2, 4);
        House.due("nothing lies under it", house.x.failure(0, 4), 0);
        house.answers(2, 3, 0, 2).answersNone(2, 4, 0).marks(5).looks(4, 1);
    }

    private static void exits() {
        House house = new House().with(3, "fn f(a) { open foo x { mark 1; g(a); mark 2; } then { mark x; return 7; } return 8; } fn g(a) { if (a) { exit foo 5; } mark 3; } "
            + "fn h(a) { exit foo 1; } fn k(a) { open lost x { exit foo 1; } then { mark x == none; return 9; } } fn l(a) { open bar x { open foo x { exit bar 4; } then { mark 1; } mark 2; } then { return x; } } "
            + "fn m(a) { open zero x { a = 1 / 0; } then { return 2; } } fn n(a) { open foo x { exit foo 1; } then { exit foo 2; } } fn o(a) { open any x { exit zero 1; } then { return 1; } } "
            + "fn p(a) { open foo x { exit foo 6; } then { } return x; } fn q(a) { open machine x { open any x { a = 1 / 0; } then { } } then { } }");
        house.answersReal(3, 0, 1, 7).marks(Double.doubleToRawLongBits(1), Double.doubleToRawLongBits(5));
        house.answersReal(3, 0, 0, 8).looks(3, 3);
        house.fails(3, 2, 0, 8).failureAt(0, 3, 8, "fn h(a) { @exit foo 1;", 0, 0, 0, 2);
        house.answersReal(3, 3, 0, 9).answersReal(3, 4, 0, 4).answersReal(3, 5, 0, 2);
        house.fails(3, 6, 0, 8).fails(3, 7, 0, 8).answersReal(3, 8, 0, 6).fails(3, 9, 0, 1);
        // not over a border; and what goes out goes on as what it is
        house = new House().with(3, "fn f(a) { open foo x { throws.f(a); } then { mark 1; } } fn g(a) { exit foo a; } fn h(a) { a = 1 / 0; }").with(0, "fn f(a) { try { exits.g(a); } catch lost x { mark 2; } catch border x { mark 3; } } "
            + "fn g(a) { exits.h(a); }");
        house.answersNone(3, 0, 1).marks(3);
        house.x.entry(3, 0, 8, 8);
        house.answersNone(3, 0, 1).marks(2);
        house.fails(0, 1, 1, 9).failure(1, 3, 1);
        // one by an ENTRY
        house = new House().with(3, "fn f(a) { open foo x { throws.f(a); } then { return x; } } fn g(a) { throws.f(a); } fn h(a) { open lost x { throws.f(a); } then { } }").with(0, "fn f(a) { throw foo a; }");
        house.x.entry(0, 3, 12, 12);
        house.answersReal(3, 0, 4, 4).fails(3, 1, 4, 12).failureAt(0, 3, 12, "fn g(a) { @throws.f(a);", 1, 0, 1, 1).fails(3, 2, 4, 12);
    }

    private static void cleanings() {
        House house = new House().with(3, "fn f(a) { open foo x { clean { mark 4; } do { mark 1; if (a == 1) { return 10; } if (a == 2) { exit foo 3; } g(a); } } then { mark x; } return 30; } "
            + "fn g(a) { clean { mark 5; } do { if (a == 3) { exit foo 6; } if (a == 4) { exit bar 7; } } } fn h(a) { clean { return 2; } do { a = 1 / 0; } } "
            + "fn k(a) { clean { exit bar 1; } do { return 5; } }");
        house.answersReal(3, 0, 0, 30).marks(bits(1), bits(5), bits(4));
        house.answersReal(3, 0, 1, 10).marks(bits(1), bits(4));
        house.answersReal(3, 0, 2, 30).marks(bits(1), bits(4), bits(3));
        house.answersReal(3, 0, 3, 30).marks(bits(1), bits(5), bits(4), bits(6));
        house.fails(3, 0, 4, 8).marks(bits(1), bits(5), bits(4)).failureAt(0, 3, 8, "exit bar 7;", 0, 0, 0, 1);
        house.answersReal(3, 2, 4, 2).fails(3, 3, 0, 8);
    }

    private static long bits(double d) {
        return Double.doubleToRawLongBits(d);
    }

    private static void lyingUnder() {
        House house = new House().with(0, "fn f(a) { try { throw foo 1; } finally { throw bar none; } } fn g(a) { try { try { throw foo 1; } finally { throw bar 2; } } finally { throw baz &f; } } "
            + "fn h(a) { try { throw foo 1; } finally { try { throw bar 2; } finally { throw baz 3; } } } fn k(a) { try { throw foo 1; } finally { try { throw bar 2; } catch bar x { } } } "
            + "fn l(a) { try { try { throw foo 1; } finally { throw bar 2; } } catch bar x { throw baz 3; } } fn m(a) { try { try { throw foo 1; } finally { return 2; } } finally { throw bar 3; } }");
        house.fails(0, 0, 0, 13).failureAt(0, 0, 13, "throw bar none;", 0, 1, 0, 0).underAt(0, 0, 0, 12, "fn f(a) { try { @throw foo 1;", 0, 0, 1, 0).under(0, 1, -1, -1, -1, -1, -1, -1, -1);
        house.fails(0, 1, 0, 14).failureAt(0, 0, 14, "throw baz &f;", 0, 1, 3, 1).underAt(0, 0, 0, 13, "fn g(a) { try { try { throw foo 1; } finally { @throw bar 2;", 0, 1, 1, 1).under(0, 1, -1);
        // bar takes foo's place only behind baz: baz lies over bar, then over foo in front of it
        house.fails(0, 2, 0, 14).failureAt(0, 0, 14, "finally { @throw baz 3;", 0, 2, 1, 2).under(0, 0, 0, 12).under(0, 1, 0, 13).under(0, 2, -1);
        house.fails(0, 3, 0, 12).failureAt(0, 0, 12, "fn k(a) { try { @throw foo 1;", 0, 0, 1, 3);
        house.fails(0, 4, 0, 14).failure(0, 0, 14);
        House.due("caught, so nothing lies under", house.x.failure(0, 4), 0);
        house.fails(0, 5, 0, 13);
        House.due("a return took its place", house.x.failure(0, 4), 0);
        House.due("k -1", house.x.under(0, -1, 0), -1);
        house.fails(0, 0, 0, 13);
        House.due("what 7", house.x.under(0, 0, 7), -1);
        House.due("what -1", house.x.under(0, 0, -1), -1);
        House.due("i 1", house.x.under(1, 0, 0), -1);
        House.due("i -1", house.x.under(-1, 0, 0), -1);
        House.due("k far", house.x.under(0, Integer.MAX_VALUE, 0), -1);
        // under what it came from
        house.with(2, "fn f(a) { return throws.f(a); }").fails(2, 0, 0, 9).failure(0, 2, 9, 10, 2, 0, 0, 0).failureAt(1, 0, 13, "throw bar none;", 0, 1).under(0, 0, -1).under(1, 0, 0, 12);
        house = new House().with(3, "fn f(a) { clean { exit foo 1; } do { a = 1 / 0; } } fn g(a) { open foo x { clean { exit foo 1; } do { a = 1 / 0; } } then { exit bar 1; } } fn h(a) { clean { throws.f(a); } do { codes.f(a); } }")
            .with(0, "fn f(a) { throw foo 1; }").with(1, "fn f(a) { fail 6; }");
        house.fails(3, 0, 0, 8).failureAt(0, 3, 8, "fn f(a) { clean { @exit foo 1;", 0, 1, 0, 0).underAt(0, 0, 3, 1, "fn f(a) { clean { exit foo 1; } do { @a = 1 / 0;", 0, 0, 0, 0);
        house.fails(3, 1, 0, 8).failureAt(0, 3, 8, "exit bar 1;", 0, 0);
        house.fails(3, 2, 0, 9).failureAt(0, 3, 9, "throws.f(a);", 2, 1, 1, 2).underAt(0, 0, 3, 9, "codes.f(a);", 2, 0, 0, 2);
    }

    private static void underInValues() {
        House house = new House().with(2, "fn f(a) { with { return bad foo(1); } end { return bad bar(2); } } fn g(a) { let b = bad foo(1); with { return b; } end { return b; } } "
            + "fn h(a) { with { mark bad foo(1); } end { if (bad bar(2)) { } } } fn k(a) { with { 1; } end { return bad foo(1); } } fn l(a) { with { bad foo(1); } end { return bad bar(2); } } "
            + "fn m(a) { with { with { return bad foo(1); } end { return bad bar(2); } } end { return bad baz(3); } } fn n(a) { with { return bad foo(1); } end { with { return bad bar(2); } end { return bad baz(3); } } }");
        house.fails(2, 0, 0, 13).failureAt(0, 2, 13, "fn f(a) { with { return bad foo(1); } end { @return bad bar(2);", 0, 1, 1, 0).underAt(0, 0, 2, 12, "fn f(a) { with { @return bad foo(1);", 0, 0, 1, 0).under(0, 1, -1);
        house.fails(2, 1, 0, 12).failureAt(0, 2, 12, "let b =", 0, 0, 1, 1).under(0, 0, -1);
        house.fails(2, 2, 0, 13).failureAt(0, 2, 13, "if (bad", 0, 1).underAt(0, 0, 2, 12, "mark bad foo(1);");
        house.fails(2, 3, 0, 12).failureAt(0, 2, 12, "with { 1; } end { @return bad foo(1);", 0, 0);
        house.fails(2, 4, 0, 13).failureAt(0, 2, 13, "with { bad foo(1); } end { @return bad bar(2);", 0, 0).looks(4, 1);
        house.fails(2, 5, 0, 14).failureAt(0, 2, 14, "bad bar(2); } } end { @return bad baz(3);", 0, 1).underAt(0, 0, 2, 13, "with { with { return bad foo(1); } end { @return bad bar(2);", 0, 1);
        house.fails(2, 6, 0, 14).failureAt(0, 2, 14, "bad bar(2); } end { @return bad baz(3);", 0, 2).under(0, 0, 2, 12).under(0, 1, 2, 13);
    }

    private static void places() {
        House house = new House().with(0, "fn a() { } fn f(n) { if (n) { mark 1; } else { g(n); } } fn g(n) { while (1 / n) { } } fn h(n) { while (10 / n) { n = n - 1; } } fn k(n) { if (n) { mark n; } n = f(0); }");
        house.fails(0, 1, 0, 1).failureAt(0, 0, 1, "while (1 /", 0, 0, 0, 2);
        house.fails(0, 3, 2, 1).failureAt(0, 0, 1, "while (10", 0, 0, 0, 3);
        house.fails(0, 4, 2, 1).failureAt(0, 0, 1, "while (1 /", 0, 0, 0, 2);
        House.due("nothing came out of the next run", house.x.call(0, 0, 0), 0);
        house.failure(0, -1, -1, -1, -1, -1, -1, -1);
    }
}
