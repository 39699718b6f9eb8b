/** Promises 1, 2, 5, 6, 7 and the edges of the face: what is told without a run. */
public final class FaceTest {
    public static void main(String[] args) {
        newObject();
        feeding();
        letters();
        rules();
        entries();
        House.close("FaceTest");
    }

    private static void newObject() {
        Counted x = new Counted();
        House.due("NONE", FourTongues.NONE, -1);
        for (int what = 0; what <= 9; what++) {
            House.due("look " + what, x.look(what), 0);
        }
        House.due("look 10", x.look(10), 11);
        House.due("look 11", x.look(11), -1);
        House.due("look -1", x.look(-1), -1);
        House.due("look least", x.look(Integer.MIN_VALUE), -1);
        House.due("answer", x.answer(), 0);
        House.due("mark", x.mark(0), 0);
        House.due("mark -1", x.mark(-1), 0);
        House.due("markTongue", x.markTongue(0), -1);
        House.due("markTongue -1", x.markTongue(-1), -1);
        House.due("fault", x.fault(), 0);
        for (int i = -1; i < 2; i++) {
            for (int what = -1; what < 8; what++) {
                House.due("failure", x.failure(i, what), -1);
                House.due("under", x.under(i, 0, what), -1);
            }
        }
        for (int t = -1; t <= 4; t++) {
            House.due("call", x.call(t, 0, 0), 3);
        }
        House.due("empty tape", x.load(0, 1), -5000);
        House.due("twenty bytes", x.feed(0, 0, 0, 0, 0), 20);
    }

    private static void feeding() {
        Counted x = new Counted();
        for (int i = 1; i <= 150; i++) {
            House.due("feed", x.feed(538976288, 538976288, 538976288, 538976288, 538976288), 20 * i);
        }
        House.due("feed beyond", x.feed(1, 2, 3, 4, 5), -1);
        House.due("feed beyond again", x.feed(1, 2, 3, 4, 5), -1);
        House.due("all of it", x.load(0, 3000), 0);
        House.due("empty then", x.feed(0x666e2066, 0x28297b7d, 0x20202020, 0x20202020, 0xffffffff), 20);
        House.due("highest byte first", x.load(1, 16), 1);
        House.due("bytes go behind", x.feed(0x666e2066, 0x28297b7d, 0x20202020, 0x20202020, 0x20202020), 20);
        House.due("bytes go behind", x.feed(0x666e2067, 0x28297b7d, 0x20202020, 0x20202020, 0xffffffff), 40);
        House.due("two functions", x.load(1, 36), 2);
        House.due("highest bit of a byte", x.feed(0xff000000, 0, 0, 0, 0), 20);
        House.due("a byte that begins no TOKEN", x.load(0, 1), -1);
        House.due("its kind", x.fault(), 1);
    }

    private static void letters() {
        String[] names = {"zero", "index", "nothing", "sort", "size", "deep", "trap", "lost", "border", "any", "machine"};
        House house = new House();
        for (int i = 0; i < names.length; i++) {
            spelled(house.x, i + 1, names[i]);
        }
        House.due("no name 0", house.x.letter(0, 0), -1);
        House.due("no name 12", house.x.letter(12, 0), -1);
        House.due("no name -1", house.x.letter(-1, 0), -1);
        house.with(0, "kind abcdefgh under z9; fn f() { throw q 1; try { } catch zero x { } catch w y { } }");
        spelled(house.x, 12, "abcdefgh");
        spelled(house.x, 13, "z9");
        spelled(house.x, 14, "q");
        spelled(house.x, 15, "w");
        house.looks(10, 15);
        house.with(2, "fn f() { bad w(1); bad v(bad u(1)); }");
        spelled(house.x, 16, "v");
        spelled(house.x, 17, "u");
        house.with(3, "fn f() { open t x { exit s 1; } then { exit q x; } }");
        spelled(house.x, 18, "t");
        spelled(house.x, 19, "s");
        house.with(1, "fn f() { fail 5; }");
        house.looks(10, 19);
        House.due("a text with a FAULT gives no names", house.take(0, "fn f() { throw new1 1; throw new2 }") < 0, true);
        house.looks(10, 19);
        House.due("no name 20", house.x.letter(20, 0), -1);
        house.with(0, "fn f() { }");
        house.looks(10, 19);
        spelled(house.x, 12, "abcdefgh");
    }

    private static void spelled(Counted x, int number, String name) {
        for (int k = 0; k < name.length(); k++) {
            House.due("letter of " + name, x.letter(number, k), name.charAt(k));
        }
        House.due("end of " + name, x.letter(number, name.length()), -1);
        House.due("ahead of " + name, x.letter(number, -1), -1);
        House.due("far behind " + name, x.letter(number, Integer.MAX_VALUE), -1);
    }

    private static void rules() {
        Counted x = new Counted();
        for (int from = -1; from <= 4; from++) {
            for (int to = -1; to <= 4; to++) {
                for (int rule = -1; rule <= 3; rule++) {
                    boolean good = from >= 0 && from < 4 && to >= 0 && to < 4 && from != to && rule >= 0 && rule < 3;
                    House.due("rule " + from + " " + to + " " + rule, x.rule(from, to, rule), good);
                }
            }
        }
        House house = new House().with(0, "fn f(a) { return codes.f(a); }").with(1, "fn f(a) { return a; }");
        house.fails(0, 0, 4294967297L, 9);
        house.x.rule(0, 1, 1);
        house.answers(0, 0, 4294967297L, 1);
        house.x.rule(0, 1, 3);
        house.x.rule(1, 0, 2);
        house.answers(0, 0, 4294967297L, 1);
        house.x.rule(0, 1, 2);
        house.answers(0, 0, 4294967297L, 2147483647);
        house.x.rule(0, 1, 0);
        house.fails(0, 0, 4294967297L, 9);
    }

    private static void entries() {
        Counted x = new Counted();
        House.due("to itself", x.entry(1, 1, 1, 1), false);
        House.due("from -1", x.entry(-1, 1, 1, 1), false);
        House.due("from 4", x.entry(4, 1, 1, 1), false);
        House.due("to -1", x.entry(0, -1, 1, 1), false);
        House.due("to 4", x.entry(0, 4, 1, 1), false);
        House.due("NAME 12", x.entry(0, 2, 12, 1), false);
        House.due("as NAME 12", x.entry(0, 2, 1, 12), false);
        House.due("as NAME 0", x.entry(0, 2, 1, 0), false);
        House.due("NAME -1", x.entry(0, 2, -1, 1), false);
        House.due("as CODE 0", x.entry(0, 1, 1, 0), false);
        House.due("as CODE -7", x.entry(0, 1, 1, -7), true);
        House.due("CODE 1000", x.entry(1, 3, 1000, 11), true);
        House.due("CODE -1", x.entry(1, 3, -1, 11), true);
        House.due("DEFAULT", x.entry(1, 3, 0, 11), true);
        House.due("DEFAULT as CODE 0", x.entry(3, 1, 0, 0), false);
        House.due("DEFAULT to itself", x.entry(3, 3, 0, 1), false);
        hundred();
    }

    private static void hundred() {
        Counted x = new Counted();
        for (int code = 1; code <= 100; code++) {
            House.due("entry " + code, x.entry(1, 0, code, 1), true);
        }
        House.due("the 101st", x.entry(1, 0, 101, 1), false);
        House.due("the 101st elsewhere", x.entry(0, 1, 1, 1), false);
        House.due("in place of one", x.entry(1, 0, 100, 2), true);
        House.due("a DEFAULT is none of them", x.entry(1, 0, 0, 3), true);
        House house = new House().with(0, "fn f(a) { codes.f(a); }").with(1, "fn f(a) { fail a; }");
        for (int code = 1; code <= 100; code++) {
            house.x.entry(1, 0, code, 1);
        }
        house.x.entry(1, 0, 100, 2);
        house.x.entry(1, 0, 101, 5);
        house.x.entry(1, 0, 0, 3);
        house.fails(0, 0, 99, 1).failure(0, 0, 1, 10, 1);
        house.fails(0, 0, 100, 2).failure(0, 0, 2, 10, 1);
        house.fails(0, 0, 101, 3).failure(0, 0, 3, 10, 2);
    }
}
