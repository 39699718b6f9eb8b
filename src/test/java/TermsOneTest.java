/** Terms 1 sentence by sentence: NUMBERS, arrays and NAMES at their edges. */
public final class TermsOneTest {
    private static final long MOST_LONG = Long.MAX_VALUE;
    private static final long LEAST_LONG = Long.MIN_VALUE;
    private static final long MOST_INT = 2147483647L;
    private static final long LEAST_INT = -2147483648L;
    private static final long MOST_WHOLE = 100000000000000000L;

    public static void main(String[] args) {
        arrayOfNoneToFourHundred();
        arrayIsNoneAtFirst();
        arrayIsOfTheTongueThatMadeIt();
        longsWrap();
        intsTrapBeyond();
        wholesTrapBeyond();
        doublesTrapBeyond();
        doublesAreRoundedOnce();
        restIsExactWithTheLeftSign();
        wholesGoTowardsNought();
        byNoughtIsZero();
        eachNameHasItsNumber();
        codesAreIntsButNotNought();
        codesOfOneToNine();
        namesFromTwelveAsTheyStand();
        fortyNamesInTheHouse();
        numbersOfNamesStay();
        oneToSevenUnderMachine();
        allOthersUnderAny();
        kindsToldOtherwise();
        House.close("TermsOneTest");
    }

    private static void arrayOfNoneToFourHundred() {
        House.sentence("an array (of 0 to 400 VALUES)");
        for (int t = 0; t < 4; t++) {
            House house = new House().with(t, "fn f(a) { return size(new[a]); } fn g(a) { let x = new[a]; x[a - 1] = 7; return x[a - 1]; }");
            house.answersWhole(t, 0, 0, 0).answersWhole(t, 0, 1, 1).answersWhole(t, 0, 399, 399).answersWhole(t, 0, 400, 400);
            house.fails(t, 0, 401, 5).fails(t, 0, -1, 5).fails(t, 0, 2147483647, 5).fails(t, 0, -2147483648L, 5);
            house.answersWhole(t, 1, 400, 7).answersWhole(t, 1, 1, 7).fails(t, 1, 0, 2);
        }
    }

    private static void arrayIsNoneAtFirst() {
        House.sentence("an array (.. none at first)");
        for (int t = 0; t < 4; t++) {
            House house = new House().with(t, "fn f(a) { let x = new[a]; let i = 0; while (i < a) { if (x[i] != none) { mark i; } x[i] = 7; i = i + 1; } return x[a - 1]; }");
            // the second run has the room that the first one filled
            house.answersWhole(t, 0, 400, 7).marks().answersWhole(t, 0, 400, 7).marks();
        }
    }

    private static void arrayIsOfTheTongueThatMadeIt() {
        House.sentence("an array (.. of the TONGUE that made it)");
        House house = new House().with(0, "fn f(a) { let x = codes.g(); try { x[0] = a; } catch sort e { return 0 - 1; } return x[0]; } fn h(a) { let x = codes.k(new[1]); x[0] = a; return x[0]; }")
            .with(1, "fn g() { return new[1]; } fn k(x) { return x; }");
        house.answers(0, 0, MOST_INT, MOST_INT).answers(0, 0, MOST_INT + 1, -1).answers(0, 0, LEAST_INT, LEAST_INT).answers(0, 0, LEAST_INT - 1, -1);
        // it was only handed through CODES
        house.answers(0, 1, MOST_LONG, MOST_LONG).looks(5, 1);
    }

    private static void longsWrap() {
        House.sentence("0: longs, that wrap");
        House house = new House().with(0, "fn f(a) { return a + 1; } fn g(a) { return a - 1; } fn h(a) { return a * 2; } fn k(a) { return -a; } fn l(a) { return a / -1; } fn m(a) { return a % -1; } fn n(a) { return a * a; } fn o(a) { return a + a; }");
        house.answers(0, 0, MOST_LONG - 1, MOST_LONG).answers(0, 0, MOST_LONG, LEAST_LONG);
        house.answers(0, 1, LEAST_LONG + 1, LEAST_LONG).answers(0, 1, LEAST_LONG, MOST_LONG);
        house.answers(0, 2, MOST_LONG, -2).answers(0, 2, LEAST_LONG, 0);
        house.answers(0, 3, LEAST_LONG, LEAST_LONG).answers(0, 3, MOST_LONG, -MOST_LONG);
        house.answers(0, 4, LEAST_LONG, LEAST_LONG).answers(0, 4, MOST_LONG, -MOST_LONG).answers(0, 5, LEAST_LONG, 0);
        house.answers(0, 6, 3037000500L, -9223372036709301616L).answers(0, 6, 4294967296L, 0).answers(0, 7, LEAST_LONG, 0);
    }

    private static void intsTrapBeyond() {
        House.sentence("1: ints; beyond: TRAP");
        House house = new House().with(1, "fn f(a) { return a + 1; } fn g(a) { return a - 1; } fn h(a) { return a * 2; } fn k(a) { return -a; } fn l(a) { return a / -1; } fn m(a) { return a % -1; } fn n(a) { return a + -1; } fn o(a) { return a - -1; } fn p(a) { return a * a; } fn q(a) { return a * -1; }");
        house.answers(1, 0, MOST_INT - 1, MOST_INT).fails(1, 0, MOST_INT, 7);
        house.answers(1, 1, LEAST_INT + 1, LEAST_INT).fails(1, 1, LEAST_INT, 7);
        house.answers(1, 2, 1073741823, MOST_INT - 1).fails(1, 2, 1073741824, 7).answers(1, 2, -1073741824, LEAST_INT).fails(1, 2, -1073741825, 7);
        house.answers(1, 3, MOST_INT, -MOST_INT).fails(1, 3, LEAST_INT, 7);
        house.answers(1, 4, LEAST_INT + 1, MOST_INT).fails(1, 4, LEAST_INT, 7).answers(1, 5, LEAST_INT, 0);
        house.answers(1, 6, LEAST_INT + 1, LEAST_INT).fails(1, 6, LEAST_INT, 7).answers(1, 7, MOST_INT - 1, MOST_INT).fails(1, 7, MOST_INT, 7);
        house.answers(1, 8, -46340, 2147395600).fails(1, 8, 46341, 7).fails(1, 8, 65536, 7).fails(1, 8, LEAST_INT, 7).fails(1, 9, LEAST_INT, 7);
    }

    private static void wholesTrapBeyond() {
        House.sentence("2: wholes from -10^17 to 10^17; beyond: TRAP");
        House house = new House().with(2, "fn f(a) { return a + 1; } fn g(a) { return a - 1; } fn h(a) { return a * 2; } fn k(a) { return -a; } fn l(a) { return a / -1; } fn m(a) { return a % -1; } fn n(a) { return a * a; } fn o(a) { return a * -1; } fn p(a) { return a * 3; }");
        house.answers(2, 0, MOST_WHOLE - 1, MOST_WHOLE).fails(2, 0, MOST_WHOLE, 7);
        house.answers(2, 1, 1 - MOST_WHOLE, -MOST_WHOLE).fails(2, 1, -MOST_WHOLE, 7);
        house.answers(2, 2, MOST_WHOLE / 2, MOST_WHOLE).fails(2, 2, MOST_WHOLE / 2 + 1, 7).answers(2, 2, -MOST_WHOLE / 2, -MOST_WHOLE).fails(2, 2, -MOST_WHOLE / 2 - 1, 7);
        house.answers(2, 3, MOST_WHOLE, -MOST_WHOLE).answers(2, 3, -MOST_WHOLE, MOST_WHOLE);
        house.answers(2, 4, -MOST_WHOLE, MOST_WHOLE).answers(2, 5, -MOST_WHOLE, 0);
        // 2^64 and more would wrap back into what a long has
        house.answers(2, 6, 316227766, 99999999989350756L).fails(2, 6, 316227767, 7).fails(2, 6, 4294967296L, 7).fails(2, 6, -4294967296L, 7).fails(2, 6, MOST_WHOLE, 7);
        house.answers(2, 7, MOST_WHOLE, -MOST_WHOLE).answers(2, 8, 33333333333333333L, 99999999999999999L).fails(2, 8, 33333333333333334L, 7);
    }

    /** m is the greatest double, p(x) x times 2^960, l(x) x divided by 2^1070. */
    private static final String ENDS = "fn m() { let x = 9007199254740 * 1000 + 991; let n = 97; while (n) { x = x * 1024; n = n - 1; } return x * 2; } fn p(x) { let n = 96; while (n) { x = x * 1024; n = n - 1; } return x; } "
        + "fn l(x) { let n = 107; while (n) { x = x / 1024; n = n - 1; } return x; } ";

    private static House ending(String expression) {
        return new House().with(3, ENDS + "fn f(a) { return " + expression + "; }");
    }

    private static void doublesTrapBeyond() {
        House.sentence("3: doubles, finite; beyond: TRAP");
        double most = Double.MAX_VALUE;
        ending("m()").answersReal(3, 3, 0, most);
        ending("-m()").answersReal(3, 3, 0, -most);
        ending("m() + p(512)").answersReal(3, 3, 0, most);
        ending("m() + 0").answersReal(3, 3, 0, most);
        ending("m() - m()").answersReal(3, 3, 0, 0.0);
        ending("m() * -1").answersReal(3, 3, 0, -most);
        ending("m() / -1").answersReal(3, 3, 0, -most);
        for (String beyond : new String[] {"m() + p(1024)", "m() + m()", "-m() - m()", "-m() + -m()", "m() * 2", "m() * -2", "m() / 0.5", "m() / -0.5", "-m() * m()", "m() / l(1)", "1 / l(0.0625)"}) {
            ending(beyond).fails(3, 3, 0, 7).failure(0, 3, 7);
        }
        // too small is no TRAP
        ending("l(0.0625)").answersReal(3, 3, 0, Double.MIN_VALUE);
        ending("l(0.0625) / 2").answersReal(3, 3, 0, 0.0);
        ending("-l(0.0625) / 2").answersReal(3, 3, 0, -0.0);
    }

    private static void doublesAreRoundedOnce() {
        House.sentence("each rounded once");
        ending("0.1 + 0.2").answersReal(3, 3, 0, 0.30000000000000004);
        ending("0.3 - 0.1").answersReal(3, 3, 0, 0.19999999999999998);
        ending("1.1 * 1.1").answersReal(3, 3, 0, 1.2100000000000002);
        ending("2 / 3").answersReal(3, 3, 0, 0.6666666666666666);
        // the product is rounded ahead of the difference
        ending("0.1 * 10 - 1").answersReal(3, 3, 0, 0.0);
        ending("9007199254740 * 1000 + 992 + 1").answersReal(3, 3, 0, 9007199254740992.0);
        ending("9007199254740 * 1000 + 994 + 1").answersReal(3, 3, 0, 9007199254740996.0);
    }

    private static void restIsExactWithTheLeftSign() {
        House.sentence("% is exact, with the left one's sign");
        ending("7.5 % 2").answersReal(3, 3, 0, 1.5);
        ending("-7.5 % 2").answersReal(3, 3, 0, -1.5);
        ending("7.5 % -2").answersReal(3, 3, 0, 1.5);
        ending("-7.5 % -2").answersReal(3, 3, 0, -1.5);
        ending("8 % -4").answersReal(3, 3, 0, 0.0);
        ending("-8 % 4").answersReal(3, 3, 0, -0.0);
        ending("-0 % 5").answersReal(3, 3, 0, -0.0);
        ending("0 % -5").answersReal(3, 3, 0, 0.0);
        ending("3 % m()").answersReal(3, 3, 0, 3.0);
        ending("1 % 0.1").answersReal(3, 3, 0, 0.09999999999999995);
        ending("m() % 3").answersReal(3, 3, 0, Double.MAX_VALUE % 3);
        ending("m() % -m()").answersReal(3, 3, 0, 0.0);
        ending("m() % l(3)").answersReal(3, 3, 0, Double.MAX_VALUE % (3 * 0x1p-1070));
        ending("-m() % l(0.0625)").answersReal(3, 3, 0, -0.0);
        ending("p(3) % p(2)").answersReal(3, 3, 0, 0x1p960);
    }

    private static void wholesGoTowardsNought() {
        House.sentence("/ and % of wholes are towards 0");
        for (int t = 0; t < 3; t++) {
            House house = new House().with(t, "fn f(a) { return a / 2; } fn g(a) { return a / -2; } fn h(a) { return a % 2; } fn k(a) { return a % -2; } fn l(a) { return a % 10; }");
            house.answers(t, 0, 7, 3).answers(t, 0, -7, -3).answers(t, 1, 7, -3).answers(t, 1, -7, 3);
            house.answers(t, 0, 1, 0).answers(t, 0, -1, 0).answers(t, 1, 1, 0).answers(t, 1, -1, 0);
            house.answers(t, 2, 7, 1).answers(t, 2, -7, -1).answers(t, 3, 7, 1).answers(t, 3, -7, -1).answers(t, 2, -8, 0);
            house.answers(t, 4, 2147483647, 7).answers(t, 4, -2147483648L, -8);
        }
    }

    private static void byNoughtIsZero() {
        House.sentence("/ or % by 0 (-0.0, too): ZERO");
        for (int t = 0; t < 4; t++) {
            House house = new House().with(t, "fn f(a) { return a / 0; } fn g(a) { return a % 0; } fn h(a) { return 5 / a; } fn k(a) { return 5 % a; } fn l(a) { return a / -0; } fn m(a) { return a % -0; } fn n(a) { return a / (a - a); } fn o(a) { return a / (0 * -1); }");
            for (int f = 0; f < 8; f++) {
                house.fails(t, f, 0, 1);
                if (f != 2 && f != 3) {
                    house.fails(t, f, 7, 1).fails(t, f, -2147483648L, 1).failure(0, t, 1);
                }
            }
            house.answersWhole(t, 2, 1, 5).answersWhole(t, 3, -3, 2);
        }
    }

    private static final String[] NAMES = {"zero", "index", "nothing", "sort", "size", "deep", "trap", "lost", "border", "any", "machine"};

    private static void spelled(House house, int number, String name) {
        for (int k = 0; k < name.length(); k++) {
            House.due("letter " + k + " of " + name, house.x.letter(number, k), name.charAt(k));
        }
        House.due("behind " + name, house.x.letter(number, name.length()), -1);
    }

    private static void eachNameHasItsNumber() {
        House.sentence("NAMES 1 ZERO .. 11 MACHINE (in texts by small letters)");
        House house = new House();
        for (int i = 0; i < 11; i++) {
            spelled(house, i + 1, NAMES[i]);
            if (i != 4) {
                // size is a word
                house.with(0, "fn f(a) { throw " + NAMES[i] + " a; }").fails(0, 0, 3, i + 1).looks(10, 11);
                house.with(2, "fn f(a) { return tag(bad " + NAMES[i] + "(a)); }").answers(2, 0, 3, i + 1);
                house.with(3, "fn f(a) { open " + NAMES[i] + " x { exit " + NAMES[i] + " a; } then { return x; } }").answersWhole(3, 0, 3, 3);
            }
        }
        house.looks(10, 11);
        House.faulty(0, "fn f(a) { throw size a; }", 1, 16);
        House.faulty(0, "fn f(a) { throw ZERO a; }", 1, 16);
    }

    private static void codesAreIntsButNotNought() {
        House.sentence("in 1 a CODE (an int, not 0)");
        House house = new House().with(1, "fn f(a) { fail a; }");
        for (long code : new long[] {1, -1, 12, MOST_INT, LEAST_INT}) {
            house.fails(1, 0, code, (int) code).looks(9, (int) code);
        }
        house.answersNone(1, 0, 0).looks(9, (int) LEAST_INT);
        House.due("as the most", house.x.entry(0, 1, 1, Integer.MAX_VALUE), true);
        House.due("as the least", house.x.entry(0, 1, 1, Integer.MIN_VALUE), true);
        House.due("as 0", house.x.entry(0, 1, 1, 0), false);
        house.with(0, "fn f(a) { return a / 0; }").with(1, "fn f(a) { throws.f(a); return cell; }").answers(1, 0, 1, LEAST_INT);
    }

    private static void codesOfOneToNine() {
        House.sentence("CODES of 1 to 9 by their numbers");
        String[] failing = {"1 / 0;", "x[1];", "nono();", "none + 1;", "new[401];", "deep(30);", "2147483647 + 1;", "", "throws.f(1);"};
        for (int i = 0; i < 9; i++) {
            if (i != 7) {
                House house = new House().with(1, "fn f(a) { let x = new[1]; on { " + failing[i] + " mark 99; } go { return cell; } } fn deep(n) { on { return deep(n - 1); } go { fail cell; } }")
                    .with(0, "fn f(a) { throw any a; }");
                house.answers(1, 0, 0, i + 1).marks().looks(9, i + 1);
            }
        }
        // LOST is made in EXITS alone; to CODES it goes by an ENTRY
        House house = new House().with(1, "fn f(a) { on { exits.f(a); } go { return cell; } }").with(3, "fn f(a) { exit foo a; }");
        house.x.entry(3, 1, 8, 8);
        house.answers(1, 0, 0, 8);
    }

    private static void namesFromTwelveAsTheyStand() {
        House.sentence("others, as KINDS, TAGS, EXITS of texts taken, from 12 on, as they stand in them");
        House house = new House().with(0, "fn late(late) { try { throw b c(); } catch a x { throw d 1; } catch b y { } finally { throw e 1; } } kind f under g; kind zero under h;");
        String[] want = {"b", "a", "d", "e", "f", "g", "h"};
        for (int i = 0; i < want.length; i++) {
            spelled(house, 12 + i, want[i]);
        }
        house.looks(10, 18);
        House.due("no further one", house.x.letter(19, 0), -1);
        house.with(2, "fn f(v) { let w = bad i(bad j(1)); bad a(2); return w; }").looks(10, 20);
        spelled(house, 19, "i");
        spelled(house, 20, "j");
        house.with(3, "fn f(v) { open k o { exit l 1; } then { open m o { } then { exit zero 1; } } clean { exit n 1; } do { exit o 1; } }").looks(10, 25);
        String[] exits = {"k", "l", "m", "n", "o"};
        for (int i = 0; i < exits.length; i++) {
            spelled(house, 21 + i, exits[i]);
        }
        House.due("a text with a FAULT", house.take(2, "fn f(v) { bad p(1); bad q(1) }") < 0, true);
        house.looks(10, 25);
        house.with(2, "fn f(v) { bad q(1); }").looks(10, 26);
        spelled(house, 26, "q");
    }

    private static String throwing(int from, int to) {
        StringBuilder text = new StringBuilder("fn f(n) {");
        for (int i = from; i < to; i++) {
            text.append("if(n==").append(i).append("){throw k").append(i).append(" n;}");
        }
        return text.append("}").toString();
    }

    private static void fortyNamesInTheHouse() {
        House.sentence("at most 40 such in the house");
        House house = new House().with(0, throwing(0, 39)).looks(10, 50);
        house.with(2, "fn f(a) { bad k0(1); bad mine(1); }").looks(10, 51);
        spelled(house, 51, "mine");
        house.fails(0, 0, 38, 50);
        House.due("a 41st", house.take(3, "fn f(a) { exit k1 1; exit more 1; }"), -26 - 1);
        House.due("its kind", house.x.fault(), 2);
        house.looks(10, 51);
        House.due("no 52nd name", house.x.letter(52, 0), -1);
        house.with(3, "fn f(a) { exit k1 1; exit mine 1; exit trap 1; }").looks(10, 51);
        // those of texts that are gone count on
        house.with(0, "").with(2, "").with(3, "");
        House.due("still a 41st", house.take(0, "kind more under any;"), -5 - 1);
        house.looks(10, 51);
    }

    private static void numbersOfNamesStay() {
        House.sentence("a number stays whatever is taken later");
        House house = new House().with(0, "fn f(a) { throw one a; } fn g(a) { throw two a; }").fails(0, 0, 1, 12).fails(0, 1, 1, 13);
        house.with(0, "fn f(a) { throw two a; } fn g(a) { throw three a; } fn h(a) { throw one a; }");
        house.fails(0, 0, 1, 13).fails(0, 1, 1, 14).fails(0, 2, 1, 12).looks(10, 14);
        house.with(0, "").looks(10, 14);
        spelled(house, 12, "one");
        spelled(house, 13, "two");
        spelled(house, 14, "three");
        house.with(2, "fn f(a) { return bad three(a); }").fails(2, 0, 1, 14);
    }

    private static final String THROWING_ALL = "fn g(n) { if (n == 1) { n = 1 / 0; } if (n == 2) { throw index 1; } if (n == 3) { nono(); } if (n == 4) { n = -none; } if (n == 5) { new[401]; } if (n == 6) { throw deep 1; } "
        + "if (n == 7) { throw trap 1; } if (n == 8) { throw lost 1; } if (n == 9) { throw border 1; } if (n == 10) { throw any 1; } if (n == 11) { throw machine 1; } if (n == 12) { throw own 1; } }";

    private static void oneToSevenUnderMachine() {
        House.sentence("1 to 7 UNDER MACHINE");
        House house = new House().with(0, "fn f(n) { try { g(n); } catch machine x { return 1; } return 2; } " + THROWING_ALL);
        for (int n = 1; n <= 12; n++) {
            if (n <= 7 || n == 11) {
                house.answers(0, 0, n, 1);
            } else {
                house.fails(0, 0, n, n);
            }
        }
        house.answers(0, 0, 13, 2);
    }

    private static void allOthersUnderAny() {
        House.sentence("all others UNDER ANY");
        House house = new House().with(0, "fn f(n) { try { g(n); } catch any x { return 1; } return 2; } " + THROWING_ALL);
        for (int n = 1; n <= 12; n++) {
            house.answers(0, 0, n, 1);
        }
        house.answers(0, 0, 13, 2);
        // ANY itself is UNDER nothing, and one KIND isn't UNDER another of its own rank
        house = new House().with(0, "fn f(n) { try { g(n); } catch zero x { return 1; } catch own x { return 2; } catch lost x { return 3; } } " + THROWING_ALL);
        house.answers(0, 0, 1, 1).answers(0, 0, 12, 2).answers(0, 0, 8, 3).fails(0, 0, 2, 2).fails(0, 0, 9, 9).fails(0, 0, 10, 10).fails(0, 0, 11, 11);
    }

    private static void kindsToldOtherwise() {
        House.sentence("if no text of TONGUE 0 that was taken told otherwise (the latest; in a text 'kind', one behind the other, from that on)");
        String body = "fn f(n) { try { if (n == 1) { throw a 1; } if (n == 2) { throw b 2; } n = 1 / 0; } catch b x { return 2; } catch c x { return 3; } catch machine x { return 11; } catch any x { return 10; } }";
        House house = new House().with(0, body).answers(0, 0, 1, 10).answers(0, 0, 2, 2).answers(0, 0, 3, 11);
        house.with(0, "kind a under b; kind a under c; kind zero under c;" + body).answers(0, 0, 1, 3).answers(0, 0, 3, 3);
        // a later text that tells nothing of it leaves it; the latest that does counts
        house.with(0, body).answers(0, 0, 1, 3).answers(0, 0, 3, 3);
        house.with(0, body + " kind a under b; kind zero under machine;").answers(0, 0, 1, 2).answers(0, 0, 3, 11);
        House.due("a text that isn't taken", house.take(0, "kind a under c; kind b under b;"), -29 - 1);
        house.answers(0, 0, 1, 2);
        // one behind the other: the first is told ahead of the second
        House.fine(0, "kind a under b; kind a under any; kind b under a;", 0);
        House.faulty(0, "kind a under b; kind b under a; kind a under any;", 3, 29);
        // UNDER goes over several
        house = new House().with(0, "kind a under b; kind b under c; kind c under zero; fn f(n) { try { throw a 5; } catch zero x { return x; } } fn g(n) { try { throw a 5; } catch index x { return 1; } catch machine x { return 2; } }");
        house.answers(0, 0, 0, 5).answers(0, 1, 0, 2);
    }
}
