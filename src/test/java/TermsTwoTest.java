/** Terms 2 sentence by sentence: TEXTS, TOKENS and FAULTS at their edges. */
public final class TermsTwoTest {
    public static void main(String[] args) {
        latestTakenIsTheTongues();
        threeThousandBytes();
        blanksAreTenAndThirtyTwo();
        tokensAreAsLongAsTheyCanBe();
        namesOfEightAtMost();
        wordsAreNoNames();
        numbersOfThrows();
        numbersOfCodes();
        numbersOfValues();
        numbersOfExits();
        textsOfNothing();
        kindIsOfThrows();
        tryHasOneOfBoth();
        ownStatements();
        ownExpressions();
        elseOfAnExpression();
        signsBind();
        faultOneAtTheFirstByte();
        faultOneAtTheLength();
        faultOneAtTooDeep();
        ninthArgument();
        fortyFirstFunction();
        fifthParameter();
        thirteenthVariable();
        fortyFirstName();
        functionToldTwice();
        parametersAlike();
        kindUnderItself();
        variablesThatAreNone();
        variablesAhead();
        leastKindOfFault();
        firstOfOneKind();
        House.close("TermsTwoTest");
    }

    private static void latestTakenIsTheTongues() {
        House.sentence("the latest taken is that TONGUE's (functions of ones ahead are gone)");
        for (int t = 0; t < 4; t++) {
            int u = (t + 1) % 4;
            House house = new House().with(t, "fn f(a) { return 1; } fn g(a) { return 2; }").with(u, "fn f(a) { return " + House.TONGUES[t] + ".g(a); } fn h(a) { return &" + House.TONGUES[t] + ".g; }");
            house.answersWhole(t, 0, 0, 1).answersWhole(t, 1, 0, 2).answersWhole(u, 0, 0, 2).answers(u, 1, 0, 64 * t + 1);
            house.with(t, "fn g(a) { return 3; }").answersWhole(t, 0, 0, 3).answersWhole(u, 0, 0, 3).answers(u, 1, 0, 64 * t);
            House.due("one function alone", house.x.call(t, 1, 0), 3);
            house.with(t, "fn f(a) { return 1; }").fails(u, 0, 0, 3).fails(u, 1, 0, 3);
            house.with(t, "");
            House.due("no function", house.x.call(t, 0, 0), 3);
            house.fails(u, 0, 0, 3);
        }
    }

    private static String blanks(int n) {
        return " ".repeat(n);
    }

    private static void threeThousandBytes() {
        House.sentence("The TAPE has at most 3000 bytes");
        for (int t = 0; t < 4; t++) {
            String text = blanks(2980) + "fn f(a){return a+2;}";
            House house = new House();
            House.due("all of it", house.feedText(text), 3000);
            House.due("no more", house.x.feed(0, 0, 0, 0, 0), -1);
            House.due("not 3001", house.x.load(t, 3001), -5000);
            House.due("3000", house.x.load(t, 3000), 1);
            house.answersWhole(t, 0, 5, 7);
            House.faulty(t, blanks(2980) + "fn f(a){return a+2;;", 1, 2999);
            House.faulty(t, blanks(2980) + "fn f(a){return a+2; ", 1, 3000);
            // as many TOKENS as there can be
            House.fine(t, "fn f(){" + "0;".repeat(1496) + "}", 1);
            House.faulty(t, "fn f(){" + "0;".repeat(1496) + ")", 1, 2999);
        }
    }

    private static void blanksAreTenAndThirtyTwo() {
        House.sentence("Blanks (10, 32) between TOKENS; a byte that begins none, at its beginning");
        String begins = "abcdefghijklmnopqrstuvwxyz0123456789(){}[],;.&!=<>+-*/%";
        for (int c = 0; c < 256; c++) {
            String text = "fn f(a){" + (char) c + "}";
            if (c == 10 || c == 32) {
                House.fine(0, text, 1);
            } else if (begins.indexOf(c) < 0) {
                House.faulty(0, text, 1, 8);
                House.faulty(3, "fn f(a){a=a" + (char) c + ";}", 1, 11);
            }
        }
        House.fine(0, "\n fn \n f ( a ) { a = a + 1 ; \n } \n", 1);
        House.fine(0, "fn f(a){a=a+1;if(a<=1){a[1]=2;}else{return-a;}}fn g(){}", 2);
        House.faulty(0, "fnf(a){}", 1, 0);
        House.faulty(0, "fn f(a){returna;}", 3, 8);
    }

    private static void tokensAreAsLongAsTheyCanBe() {
        House.sentence("TOKENS, each as long as it can be");
        House.fine(0, "fn f(a){let lets=1;let i=lets;let iff=a;let return1=iff;let nonex=1;let new2=2;}", 1);
        House.faulty(0, "fn1 f(){}", 1, 0);
        House.faulty(0, "fn f(a){let b=1 2;}", 1, 16);
        House.faulty(0, "fn f(a){a=12a;}", 1, 12);
        for (String sign : new String[] {"==", "!=", "<=", ">="}) {
            House.fine(0, "fn f(a){a" + sign + "a;}", 1);
            House.fine(0, "fn f(a){a" + sign + "-a;}", 1);
            House.faulty(0, "fn f(a){a" + sign + "=a;}", 1, 11);
            House.faulty(0, "fn f(a){1" + sign.charAt(0) + " =a;}", 1, sign.equals("==") || sign.equals("!=") ? 9 : 11);
        }
        // < and > don't go on with each other
        House.faulty(0, "fn f(a){a<>a;}", 1, 10);
        House.faulty(0, "fn f(a){a=<a;}", 1, 10);
        House.fine(0, "fn f(a){a=a--a;a=a- -a;a=a-(-a);}", 1);
        House.fine(2, "fn f(a){a==a else a;}", 1);
        House.fine(0, "fn f(a){a!(1)!=a;}", 1);
    }

    private static void namesOfEightAtMost() {
        House.sentence("names (a small letter, then such and digits, 8 at most); a name of more than 8 letters, at its beginning");
        String[] good = {"a", "z", "abcdefgh", "a1234567", "z9", "zzzzzzzz", "a0b1c2d3"};
        String[] long9 = {"abcdefghi", "a12345678", "returning", "aaaaaaaaaaaaaaaaaaaaaaaaaaaaaaaaaaaaaaaa"};
        for (String name : good) {
            House.fine(0, "fn " + name + "(" + name + "){let " + name + "=" + name + ";throw " + name + " " + name + "(1);&throws." + name + ";}", 1);
        }
        for (String name : long9) {
            House.faulty(0, "fn " + name + "(){}", 1, 3);
            House.faulty(0, "fn f(" + name + "){}", 1, 5);
            House.faulty(0, "fn f(a){a=" + name + ";}", 1, 10);
            House.faulty(0, "fn f(a){throw " + name + " 1;}", 1, 14);
            House.faulty(2, "fn f(a){bad " + name + "(1);}", 1, 12);
            House.faulty(3, "fn f(a){exit " + name + " 1;}", 1, 13);
            House.faulty(0, name, 1, 0);
        }
        for (String none : new String[] {"A", "aB", "1a", "_a", "a_b"}) {
            House house = new House();
            House.due("no name " + none, house.take(0, "fn " + none + "(){}") < 0, true);
            House.due("its kind", house.x.fault(), 1);
        }
        // eight letters alike are no ninth
        House house = new House().with(0, "fn abcdefgh(a) { return 1; } fn abcdefgi(a) { return 2; } fn f(a) { return abcdefgi(a) * 10 + abcdefgh(a); }");
        house.answers(0, 2, 0, 21);
    }

    private static final String[] WORDS = ("kind under fn let if else while return mark throw try catch finally fail on go with end exit "
        + "open then clean do none new size cell tag bad throws codes values exits").split(" ");

    private static void wordsAreNoNames() {
        House.sentence("words (a name that is one of ..)");
        for (int t = 0; t < 4; t++) {
            for (String word : WORDS) {
                House.faulty(t, "fn " + word + "(){}", 1, 3);
                House.faulty(t, "fn f(" + word + "){}", 1, 5);
                House.faulty(t, "fn f(){let " + word + "=1;}", 1, 11);
                House.faulty(t, "fn f(){&" + (word.equals("throws") || word.equals("codes") || word.equals("values") || word.equals("exits") ? "codes." + word + ";}" : word + ";}"),
                    1, word.equals("throws") || word.equals("codes") || word.equals("values") || word.equals("exits") ? 14 : 8);
                String longer = word + "1";
                if (longer.length() <= 8) {
                    House.fine(t, "fn " + longer + "(" + longer + "){let " + longer + "=1;}", 1);
                }
            }
        }
    }

    private static void numbersOfThrows() {
        House.sentence("numbers (digits: TONGUE 0 to 9223372036854775807)");
        House.fine(0, "fn f(a){a=9223372036854775807;}", 1);
        House.faulty(0, "fn f(a){a=9223372036854775808;}", 1, 10);
        House.faulty(0, "fn f(a){a=-9223372036854775808;}", 1, 11);
        House.faulty(0, "fn f(a){a=10000000000000000000;}", 1, 10);
        House.faulty(0, "fn f(a){a=18446744073709551617;}", 1, 10);
        House.faulty(0, "fn f(a){a=1.5;}", 1, 11);
        new House().with(0, "fn f(a){return 9223372036854775807;}fn g(a){return 0;}fn h(a){return 00000000000000000000000012;}")
            .answers(0, 0, 0, Long.MAX_VALUE).answers(0, 1, 0, 0).answers(0, 2, 0, 12);
    }

    private static void numbersOfCodes() {
        House.sentence("numbers (digits: TONGUE 1 to 2147483647)");
        House.fine(1, "fn f(a){a=2147483647;}", 1);
        House.faulty(1, "fn f(a){a=2147483648;}", 1, 10);
        House.faulty(1, "fn f(a){a=-2147483648;}", 1, 11);
        House.faulty(1, "fn f(a){a=4294967296;}", 1, 10);
        House.faulty(1, "fn f(a){a=1.5;}", 1, 11);
        new House().with(1, "fn f(a){return 2147483647;}fn g(a){return 00000000000000000000000012;}").answers(1, 0, 0, 2147483647).answers(1, 1, 0, 12);
    }

    private static void numbersOfValues() {
        House.sentence("numbers (digits: TONGUE 2 to 10^17)");
        House.fine(2, "fn f(a){a=100000000000000000;}", 1);
        House.faulty(2, "fn f(a){a=100000000000000001;}", 1, 10);
        House.faulty(2, "fn f(a){a=9223372036854775807;}", 1, 10);
        House.faulty(2, "fn f(a){a=18446744073709551617;}", 1, 10);
        House.faulty(2, "fn f(a){a=1.5;}", 1, 11);
        new House().with(2, "fn f(a){return 100000000000000000;}fn g(a){return 00000000000000000000000012;}").answers(2, 0, 0, 100000000000000000L).answers(2, 1, 0, 12);
    }

    private static void numbersOfExits() {
        House.sentence("numbers (3: digits, perhaps a point and digits, 15 of both at most: all of them as a whole, divided by 10 to the number of those behind the point)");
        for (String good : new String[] {"999999999999999", "000000000000001", "1.00000000000001", "0.12345678901234", "12345678901234.5", "0.1", "3.0"}) {
            new House().with(3, "fn f(a){return " + good + ";}").answersReal(3, 0, 0, Double.parseDouble(good));
        }
        for (String wrong : new String[] {"1000000000000000", "0000000000000001", "1.000000000000001", "123456789012345.6", "0.123456789012345", "18446744073709551617", "1.0000000000000000000001"}) {
            House.faulty(3, "fn f(a){return " + wrong + ";}", 1, 15);
        }
        House.faulty(3, "fn f(a){return 1.;}", 1, 16);
        House.faulty(3, "fn f(a){return .5;}", 1, 15);
        House.faulty(3, "fn f(a){return 1 .5;}", 1, 17);
        House.faulty(3, "fn f(a){return 1. 5;}", 1, 16);
        House.faulty(3, "fn f(a){return 1.5.5;}", 1, 18);
        House.faulty(3, "fn f(a){return 1.a;}", 1, 16);
    }

    private static void textsOfNothing() {
        House.sentence("TEXT: { .. }: there may be none");
        for (int t = 0; t < 4; t++) {
            House.fine(t, "", 0);
            House.fine(t, " ", 0);
            House.fine(t, "\n  \n", 0);
            House.fine(t, "fn f(){}", 1);
            House.faulty(t, ";", 1, 0);
            House.faulty(t, "fn f(){};", 1, 8);
            House.faulty(t, "fn f(){}let", 1, 8);
            House.faulty(t, "fn f(,){}", 1, 5);
            House.faulty(t, "fn f(a,){}", 1, 7);
            House.faulty(t, "fn f(a){f(,);}", 1, 10);
            House.faulty(t, "fn f(a){f(1,);}", 1, 12);
        }
    }

    private static void kindIsOfThrows() {
        House.sentence("'kind' NAME 'under' NAME ';' (TONGUE 0)");
        House.fine(0, "kind a under b;", 0);
        House.fine(0, "fn f(){}kind a under b;fn g(){}kind b under zero;", 2);
        for (int t = 1; t < 4; t++) {
            House.faulty(t, "kind a under b;", 1, 0);
            House.faulty(t, "fn f(){}kind a under b;", 1, 8);
        }
        House.faulty(0, "fn f(){kind a under b;}", 1, 7);
        House.faulty(0, "kind a b;", 1, 7);
        House.faulty(0, "kind under b;", 1, 5);
        House.faulty(0, "kind a under ;", 1, 13);
        House.faulty(0, "kind a under b", 1, 14);
        House.faulty(0, "kind a under b fn f(){}", 1, 15);
    }

    private static void tryHasOneOfBoth() {
        House.sentence("'try' B { 'catch' NAME NAME B } [ 'finally' B ] (one of both at least)");
        House.fine(0, "fn f(){try{}catch any x{}}", 1);
        House.fine(0, "fn f(){try{}finally{}}", 1);
        House.fine(0, "fn f(){try{}catch any x{}catch any x{}catch zero y{}finally{}}", 1);
        House.faulty(0, "fn f(){try{}}", 1, 12);
        House.faulty(0, "fn f(){try{}mark 1;}", 1, 12);
        House.faulty(0, "fn f(){try{}finally{}finally{}}", 1, 21);
        House.faulty(0, "fn f(){try{}finally{}catch any x{}}", 1, 21);
        House.faulty(0, "fn f(){try{}catch any{}}", 1, 21);
        House.faulty(0, "fn f(){try{}", 1, 12);
    }

    private static void ownStatements() {
        House.sentence("of 0 'throw', 'try'; of 1 'fail', 'on'; of 2 'with'; of 3 'exit', 'open', 'clean'");
        String[] statements = {"throw foo 1;", "try{}finally{}", "fail 1;", "on{}go{}", "with{}end{}", "exit foo 1;", "open foo b{}then{}", "clean{}do{}"};
        int[] tongues = {0, 0, 1, 1, 2, 3, 3, 3};
        for (int t = 0; t < 4; t++) {
            for (int i = 0; i < statements.length; i++) {
                if (tongues[i] == t) {
                    House.fine(t, "fn f(a){" + statements[i] + statements[i] + "}", 1);
                } else {
                    House.faulty(t, "fn f(a){" + statements[i] + "}", 1, 8);
                }
            }
        }
        House.faulty(1, "fn f(){on{}}", 1, 11);
        House.faulty(2, "fn f(){with{}}", 1, 13);
        House.faulty(3, "fn f(){open foo x{}}", 1, 19);
        House.faulty(3, "fn f(){open foo{}then{}}", 1, 15);
        House.faulty(3, "fn f(){clean{}}", 1, 14);
        House.faulty(0, "fn f(){throw foo;}", 1, 16);
        House.faulty(1, "fn f(){fail;}", 1, 11);
        House.faulty(3, "fn f(){exit foo;}", 1, 15);
    }

    private static void ownExpressions() {
        House.sentence("of 1 'cell'; of 2 'bad' NAME '(' E ')' | 'tag' '(' E ')'");
        String[] parts = {"cell", "bad foo(1)", "tag(1)"};
        int[] tongues = {1, 2, 2};
        for (int t = 0; t < 4; t++) {
            for (int i = 0; i < parts.length; i++) {
                if (tongues[i] == t) {
                    House.fine(t, "fn f(a){a=" + parts[i] + ";" + parts[i] + "+1;}", 1);
                } else {
                    House.faulty(t, "fn f(a){a=" + parts[i] + ";}", 1, 10);
                    House.faulty(t, "fn f(a){" + parts[i] + ";}", 1, 8);
                }
            }
        }
        House.faulty(1, "fn f(a){cell=1;}", 1, 12);
        House.faulty(2, "fn f(a){bad(1);}", 1, 11);
        House.faulty(2, "fn f(a){bad foo;}", 1, 15);
        House.faulty(2, "fn f(a){tag 1;}", 1, 12);
        House.faulty(2, "fn f(a){tag();}", 1, 12);
    }

    private static void elseOfAnExpression() {
        House.sentence("E: Q, of 2 Q [ 'else' E ]");
        House.fine(2, "fn f(a){a else 1;a<1 else a else 2;return f(a else 1)else(a else 2);if(a else 1){}else{}}", 1);
        for (int t = 0; t < 4; t++) {
            if (t != 2) {
                House.faulty(t, "fn f(a){a else 1;}", 1, 10);
                House.faulty(t, "fn f(a){a=a else 1;}", 1, 12);
            }
        }
        House.faulty(2, "fn f(a){a else;}", 1, 14);
        House.faulty(2, "fn f(a){a else else 1;}", 1, 15);
        House.faulty(2, "fn f(a){-else 1;}", 1, 9);
    }

    private static void signsBind() {
        House.sentence("Q: A [ .. A ]. A: M { ( '+' | '-' ) M }. M: U { ( '*' | '/' | '%' ) U }. U: '-' U | P");
        String[] expressions = {"2 + 3 * 4", "2 * 3 + 4", "20 - 5 - 3", "100 / 5 / 2", "7 % 4 * 2", "2 * 7 % 4", "2 + 3 < 3 * 2", "3 * 2 < 2 + 3", "-2 + 5", "--2", "7 - -2", "-2 * -3", "(2 + 3) * 4", "20 - (5 - 3)", "-(2 + 3) + 8", "2 == 1 + 1", "6 - 1 != 10 / 2", "2 * (3 < 4)", "1 - 2 + 3 - 4 + 5", "-a + a * 2", "a % 3 + a / 5"};
        long[] answers = {14, 10, 12, 10, 6, 2, 1, 0, 3, 2, 9, 6, 20, 18, 3, 1, 0, 2, 3, 5, 3};
        for (int t = 0; t < 4; t++) {
            for (int i = 0; i < answers.length; i++) {
                new House().with(t, "fn f(a) { return " + expressions[i] + "; }").answersWhole(t, 0, 5, answers[i]);
            }
        }
        // - ahead is worked out ahead of *: the least int has none
        new House().with(1, "fn f(a) { return -a * 0; } fn g(a) { return 0 * -a; } fn h(a) { return -(a * 0); }").fails(1, 0, -2147483648L, 7).fails(1, 1, -2147483648L, 7).answers(1, 2, -2147483648L, 0);
        new House().with(3, "fn f(a) { return -a[0]; }").fails(3, 0, 1, 4);
        new House().with(0, "fn f(a) { let x = new[1]; x[0] = 4; return -x[0] - -f2(3); } fn f2(a) { return a; }").answers(0, 0, 0, -1);
    }

    private static void faultOneAtTheFirstByte() {
        House.sentence("1 the first TOKEN with which no TEXT goes on, at its first byte");
        House.faulty(0, "  fx", 1, 2);
        House.faulty(0, "fn  9", 1, 4);
        House.faulty(0, "fn f  {}", 1, 6);
        House.faulty(0, "fn f(a)  ;", 1, 9);
        House.faulty(0, "fn f(a){a=  <=1;}", 1, 12);
        House.faulty(0, "fn f(a){a=1  return a;}", 1, 13);
        House.faulty(0, "fn f(a){a+1=2;}", 1, 11);
        House.faulty(0, "fn f(a){1=2;}", 1, 9);
        House.faulty(0, "fn f(a){a<1<2;}", 1, 11);
        House.faulty(0, "fn f(a){a==1!=2;}", 1, 12);
        House.faulty(0, "fn f(a){a[1][2]=3;}", 1, 12);
        House.faulty(0, "fn f(a){f(1)(2);}", 1, 12);
        House.faulty(0, "fn f(a){codes.f;}", 1, 15);
        House.faulty(0, "fn f(a){codes.f[1];}", 1, 15);
        House.faulty(0, "fn f(a){codes.f!(1);}", 1, 15);
        House.faulty(0, "fn f(a){&codes;}", 1, 14);
        House.faulty(0, "fn f(a){&f(1);}", 1, 10);
        House.faulty(0, "fn f(a){new(1);}", 1, 11);
        House.faulty(0, "fn f(a){size[1];}", 1, 12);
        House.faulty(0, "fn f(a){let a;}", 1, 13);
        House.faulty(0, "fn f(a){let a[1]=1;}", 1, 13);
        House.faulty(0, "fn f(a){return;}", 1, 14);
        House.faulty(0, "fn f(a){mark;}", 1, 12);
        House.faulty(0, "fn f(a){if(){}}", 1, 11);
        House.faulty(0, "fn f(a){if(1)return 1;}", 1, 13);
        House.faulty(0, "fn f(a){if(1){}else if(1){}}", 1, 20);
        House.faulty(0, "fn f(a){else{}}", 1, 8);
        House.faulty(0, "fn f(a){{}}", 1, 8);
        House.faulty(0, "fn f(a){;}", 1, 8);
        House.faulty(0, "fn f(a){+a;}", 1, 8);
        House.faulty(0, "fn f(a){a+*a;}", 1, 10);
        House.faulty(0, "fn f(a){fn g(){}}", 1, 8);
        // it is the first, though more follow
        House.faulty(0, "fn f(a){a=;} fn abcdefghij(){} ?", 1, 10);
        House.faulty(0, "fn f(a){a=abcdefghij;} fn 1", 1, 10);
    }

    private static void faultOneAtTheLength() {
        House.sentence("the length, if more must come");
        String whole = "fn f(a){let b=a[1]+f(2,&codes.g)*-size(new[3]);if(b<=1){mark b;}else{return none;}while(b!(1)){b[1]=2;}}";
        for (int n = 2; n < whole.length(); n++) {
            String part = whole.substring(0, n);
            House house = new House();
            House.due("load of " + part, house.take(0, part), -n - 1);
            House.due("fault of " + part, house.x.fault(), 1);
        }
        House.fine(0, whole, 1);
        House.faulty(0, "fn f(a){  \n ", 1, 12);
        House.faulty(0, "kind a under b ", 1, 15);
        House.faulty(1, "fn f(a){on{}go{}", 1, 16);
        House.faulty(2, "fn f(a){bad foo(", 1, 16);
        House.faulty(3, "fn f(a){open foo x", 1, 18);
    }

    /** An opening that stands within so many others, by ifs around it. */
    private static String within(int others, String statement) {
        StringBuilder text = new StringBuilder("fn f(a){");
        for (int i = 1; i < others; i++) {
            text.append("if(1){");
        }
        return text + statement + "}".repeat(others);
    }

    /** The @ stands ahead of what opens: within 7 others it is fine, within 8 it is the FAULT. */
    private static void tooDeep(int t, String statement) {
        String clean = statement.replace("@", "");
        House.fine(t, within(7, clean), 1);
        int place = within(8, "@").indexOf('@') + statement.indexOf('@');
        House.faulty(t, within(8, clean), 1, place);
    }

    private static void faultOneAtTooDeep() {
        House.sentence("a {, (, [, - ahead, or else of an E within 8 others of these that are open, at it");
        for (int t = 0; t < 4; t++) {
            for (String statement : new String[] {"@(1);", "a=@(1);", "if@(1){}", "while@(1){}", "f@(1);", "f@();", "a!@();", "a!@(1);", "codes.f@();", "size@(a);", "a@[1];", "a@[1]=1;", "new@[1];", "@-1;", "a=1-@-1;"}) {
                tooDeep(t, statement);
            }
            // what is closed again isn't open
            House.fine(t, within(7, "(1)+(2)*f(3)-a[4];-1;-1;if(1){}else{}while(1){}"), 1);
            House.fine(t, within(8, "1-1-1;a=1;mark a;return a;"), 1);
        }
        for (String statement : new String[] {"try@{}finally{}", "try@{}catch any x{}"}) {
            tooDeep(0, statement);
        }
        tooDeep(1, "on@{}go{}");
        tooDeep(2, "with@{}end{}");
        tooDeep(2, "tag@(1);");
        tooDeep(2, "bad foo@(1);");
        tooDeep(2, "a @else 1;");
        tooDeep(3, "open foo x@{}then{}");
        tooDeep(3, "clean@{}do{}");
        // each sort within each other: 1 {, 7 more
        House.fine(0, "fn f(a){-(-a[-f(1)]);}", 1);
        House.fine(0, "fn f(a){-(-a[-f(-1)]);}", 1);
        House.faulty(0, "fn f(a){-(-a[-f(--1)]);}", 1, 17);
        House.fine(2, "fn f(a){1 else 1 else 1 else 1 else 1 else 1 else 1 else 1;}", 1);
        House.faulty(2, "fn f(a){1 else 1 else 1 else 1 else 1 else 1 else 1 else 1 else 1;}", 1, 59);
        House.faulty(2, "fn f(a){1 else 1 else 1 else 1 else 1 else 1 else 1 else -1;}", 1, 57);
        House.fine(2, "fn f(a){1 else 1 else 1 else 1 else 1 else 1 else -1;}", 1);
        // an else of an if is none of these
        House.fine(2, within(7, "if(1){}else{}"), 1);
    }

    private static void ninthArgument() {
        House.sentence("2 too much, at it: the 9th argument of a call (its first TOKEN)");
        String[] calls = {"f(", "a!(", "codes.f(", "throws.f("};
        for (String call : calls) {
            String eight = "fn f(a){" + call + "1,2,3,4,5,6,7,8";
            House.fine(0, eight + ");}", 1);
            for (String ninth : new String[] {"9", "(9)", "-9", "f(9)", "none", "new[1]", "&f"}) {
                House.faulty(0, eight + ", " + ninth + ");}", 2, eight.length() + 2);
            }
            House.faulty(0, eight + ",9,10,11);}", 2, eight.length() + 1);
        }
        // each call has its own
        House.fine(0, "fn f(a){f(1,2,3,4,f(1,2,3,4,5,6,7,8),6,7,8);}", 1);
        House.faulty(0, "fn f(a){f(1,2,3,4,f(1,2,3,4,5,6,7,8,9),6,7,8);}", 2, 36);
        House.faulty(0, "fn f(a){f(1,2,3,4,f(1,2,3,4,5,6,7,8),6,7,8,9);}", 2, 43);
    }

    private static String functions(int n) {
        StringBuilder text = new StringBuilder();
        for (int i = 0; i < n; i++) {
            text.append("fn f").append(i).append("(a){return ").append(i).append(";}");
        }
        return text.toString();
    }

    private static void fortyFirstFunction() {
        House.sentence("2 too much, at the NAME: the 41st function");
        for (int t = 0; t < 4; t++) {
            House house = new House().with(t, functions(40)).answersWhole(t, 39, 0, 39).answersWhole(t, 0, 0, 0);
            House.due("no 41st", house.x.call(t, 40, 0), 3);
            House.fine(t, functions(40), 40);
            House.faulty(t, functions(41), 2, functions(40).length() + 3);
            House.faulty(t, functions(43), 2, functions(40).length() + 3);
        }
    }

    private static void fifthParameter() {
        House.sentence("2 too much, at the NAME: the 5th parameter");
        for (int t = 0; t < 4; t++) {
            new House().with(t, "fn f(a) { return g(1, 2, 3, 4); } fn g(a, b, c, d) { return a * 1000 + b * 100 + c * 10 + d; }").answersWhole(t, 0, 0, 1234);
            House.faulty(t, "fn f(a,b,c,d,e){}", 2, 13);
            House.faulty(t, "fn f(a,b,c,d, e,g){}", 2, 14);
            House.faulty(t, "fn g(a,b,c,d){}fn f(a,b,c,d,e){}", 2, 28);
        }
    }

    private static String lets(int n) {
        StringBuilder text = new StringBuilder();
        for (int i = 0; i < n; i++) {
            text.append("let v").append(i).append("=").append(i).append(";");
        }
        return text.toString();
    }

    private static void thirteenthVariable() {
        House.sentence("2 too much, at the NAME: the 13th variable of a function (parameters and 'let's of new names)");
        for (int t = 0; t < 4; t++) {
            House.fine(t, "fn f(){" + lets(12) + "}", 1);
            House.faulty(t, "fn f(){" + lets(13) + "}", 2, 7 + lets(12).length() + 4);
            House.faulty(t, "fn f(){" + lets(15) + "}", 2, 7 + lets(12).length() + 4);
            House.fine(t, "fn f(a,b,c,d){" + lets(8) + "}", 1);
            House.faulty(t, "fn f(a,b,c,d){" + lets(9) + "}", 2, 14 + lets(8).length() + 4);
            // a let of a name that is known is none
            House.fine(t, "fn f(a,b,c,d){" + lets(8) + lets(8) + "let a=1;let d=2;}", 1);
            House.fine(t, "fn f(){" + lets(12) + "}fn g(){" + lets(12) + "}", 2);
            House.faulty(t, "fn f(){if(1){" + lets(12) + "}else{let x=1;}}", 2, 13 + lets(12).length() + 10);
            new House().with(t, "fn f(v0){" + lets(12) + "return v11*100+v0*10+v10;}").answersWhole(t, 0, 5, 1110);
        }
    }

    private static String throwing(int n) {
        StringBuilder text = new StringBuilder("fn f(){");
        for (int i = 0; i < n; i++) {
            text.append("throw k").append(i).append(" 1;");
        }
        return text.toString();
    }

    private static void fortyFirstName() {
        House.sentence("2 too much: the NAME of a 41st name");
        String forty = throwing(40);
        House.fine(0, forty + "throw k0 1;throw k39 1;throw zero 1;try{}catch k5 x{}}kind k1 under k2;", 1);
        House.faulty(0, throwing(41) + "}", 2, forty.length() + 6);
        House.faulty(0, throwing(43) + "}", 2, forty.length() + 6);
        House.faulty(0, forty + "try{}catch more x{}}", 2, forty.length() + 11);
        House.faulty(0, forty + "}kind more under any;", 2, forty.length() + 6);
        House.faulty(0, forty + "}kind k0 under more;", 2, forty.length() + 15);
        House house = new House().with(0, forty + "}");
        House.due("bad", house.take(2, "fn f(){bad more(1);}"), -11 - 1);
        House.due("its kind", house.x.fault(), 2);
        House.due("exit", house.take(3, "fn f(){exit more 1;}"), -12 - 1);
        House.due("its kind", house.x.fault(), 2);
        House.due("open", house.take(3, "fn f(){open more x{}then{}}"), -12 - 1);
        House.due("its kind", house.x.fault(), 2);
        house.looks(10, 51).with(2, "fn f(){bad k39(1);}").with(3, "fn f(){open k0 more{exit k1 1;}then{}}").looks(10, 51);
    }

    private static void functionToldTwice() {
        House.sentence("3 at the NAME: a function told twice");
        for (int t = 0; t < 4; t++) {
            House.faulty(t, "fn f(){}fn f(){}", 3, 11);
            House.faulty(t, "fn f(){}fn g(){}fn f(a){}fn g(){}", 3, 19);
            House.faulty(t, "fn f(){}fn g(){}fn h(){}fn g(){}", 3, 27);
            House.faulty(t, "fn f(){}fn g(){}fn h(){}fn h(){}", 3, 27);
            House.fine(t, "fn f(f){}fn g(f){}fn ff(){}", 3);
        }
        // another TONGUE's, or a text's ahead, is another
        new House().with(0, "fn f(a) { return 1; }").with(1, "fn f(a) { return 2; }").with(0, "fn f(a) { return 3; }").answers(0, 0, 0, 3).answers(1, 0, 0, 2);
    }

    private static void parametersAlike() {
        House.sentence("3 at the NAME: two parameters alike");
        for (int t = 0; t < 4; t++) {
            House.faulty(t, "fn f(a,a){}", 3, 7);
            House.faulty(t, "fn f(a,b,a){}", 3, 9);
            House.faulty(t, "fn f(a,b,c,b){}", 3, 11);
            House.fine(t, "fn f(a,b,c,d){}fn g(a,b){}", 2);
        }
    }

    private static void kindUnderItself() {
        House.sentence("3 at the NAME: the NAME behind under that is the KIND itself, or UNDER it as told till then");
        House.faulty(0, "kind a under a;", 3, 13);
        House.faulty(0, "kind any under a;", 3, 15);
        House.faulty(0, "kind any under zero;", 3, 15);
        House.faulty(0, "kind any under machine;", 3, 15);
        House.faulty(0, "kind machine under zero;", 3, 19);
        House.faulty(0, "kind machine under trap;", 3, 19);
        House.fine(0, "kind machine under lost;", 0);
        House.fine(0, "kind zero under index;", 0);
        House.faulty(0, "kind zero under index;kind index under zero;", 3, 39);
        House.faulty(0, "kind a under b;kind b under c;kind c under a;", 3, 43);
        House.fine(0, "kind a under b;kind b under c;kind a under c;", 0);
        House.fine(0, "kind a under b;kind a under any;kind b under a;", 0);
        // till then: what is told behind it doesn't count, what texts ahead told does
        House.faulty(0, "kind a under b;kind b under a;kind a under any;", 3, 28);
        House house = new House().with(0, "kind a under b;");
        House.due("told in a text ahead", house.take(0, "kind b under a;"), -13 - 1);
        House.due("its kind", house.x.fault(), 3);
        House.due("told otherwise now", house.take(0, "kind a under any;kind b under a;"), 0);
    }

    private static void variablesThatAreNone() {
        House.sentence("3 at the NAME: a variable (NAME alone, ahead of =, [, !) that is no parameter and stands in no 'let' ahead in the function's text");
        for (int t = 0; t < 4; t++) {
            for (String use : new String[] {"x;", "x=1;", "x[1];", "x[1]=1;", "x!();", "x!(1);", "x+1;", "x==1;"}) {
                House.faulty(t, "fn f(a){" + use + "}", 3, 8);
                House.faulty(t, "fn f(a){" + use + "let x=1;}", 3, 8);
                House.faulty(t, "fn x(x){}fn f(a){" + use + "}", 3, 17);
                House.fine(t, "fn f(x){" + use + "}", 1);
                House.fine(t, "fn f(){let x=1;" + use + "}", 1);
                House.fine(t, "fn f(){if(0){let x=1;}else{" + use + "}}", 1);
            }
            House.faulty(t, "fn f(a){a=1+x;}", 3, 12);
            House.faulty(t, "fn f(a){a[x]=1;}", 3, 10);
            House.faulty(t, "fn f(a){a[1]=x;}", 3, 13);
            House.faulty(t, "fn f(a){return f(1,-x);}", 3, 20);
            House.faulty(t, "fn f(a){let b=x;let x=1;}", 3, 14);
            // names of functions are no variables
            House.fine(t, "fn f(a){x(1);codes.x(1);&x;&codes.x;}", 1);
        }
    }

    private static void variablesAhead() {
        House.sentence("(or as the second NAME behind catch, open) ahead in the function's text");
        House.fine(0, "fn f(){try{}catch foo x{x=x;}x=1;}", 1);
        House.fine(0, "fn f(){try{}catch foo x{}catch bar y{x=1;}finally{x=y;}}", 1);
        House.faulty(0, "fn f(){try{x;}catch foo x{}}", 3, 11);
        House.faulty(0, "fn f(){try{}catch foo x{y;}catch bar y{}}", 3, 24);
        House.faulty(0, "fn f(){try{}catch foo x{foo;}}", 3, 24);
        House.fine(3, "fn f(){open foo x{x=1;}then{x;}x[1];}", 1);
        House.faulty(3, "fn f(){x;open foo x{}then{}}", 3, 7);
        House.faulty(3, "fn f(){open foo x{foo;}then{}}", 3, 18);
        House.faulty(3, "fn f(){open foo x{}then{}}fn g(){x;}", 3, 33);
    }

    private static void leastKindOfFault() {
        House.sentence("FAULTS, the least kind that there is");
        String third = "fn f(a,a){x;}";
        String second = "fn g(a,b,c,d,e){}";
        House.faulty(0, third, 3, 7);
        House.faulty(0, third + second, 2, third.length() + 13);
        House.faulty(0, second + third, 2, 13);
        House.faulty(0, third + second + "?", 1, third.length() + second.length());
        House.faulty(0, third + second + "fn h(", 1, third.length() + second.length() + 5);
        House.faulty(0, "fn f(a,b,c,d,d){}", 2, 13);
        House.faulty(0, "fn f(a,a,c,d,e){}", 2, 13);
        House.faulty(0, "fn f(a,a)", 1, 9);
        House.faulty(0, "fn f(a){f(1,2,3,4,5,6,7,8,x);}", 2, 26);
        House.faulty(0, "fn f(a){f(1,2,3,4,5,6,7,8,;}", 1, 26);
    }

    private static void firstOfOneKind() {
        House.sentence("of one kind the first along the text");
        House.faulty(0, "fn f(a){x;y;}fn f(){}", 3, 8);
        House.faulty(0, "fn f(a){}fn f(){x;}", 3, 12);
        House.faulty(0, "fn f(a,a){}kind a under a;", 3, 7);
        House.faulty(0, "kind a under a;fn f(a,a){}", 3, 13);
        House.faulty(0, "fn f(a,b,c,d,e){f(1,2,3,4,5,6,7,8,9);}", 2, 13);
        House.faulty(0, "fn g(a){f(1,2,3,4,5,6,7,8,9);}fn f(a,b,c,d,e){}", 2, 26);
        House.faulty(0, "fn g(a){f(1,2,3,4,5,6,7,8,f(1,2,3,4,5,6,7,8,9));}", 2, 26);
        House.faulty(0, "fn g(a){f(f(1,2,3,4,5,6,7,8,9),2,3,4,5,6,7,8,9);}", 2, 28);
        House.faulty(2, throwingBad(41) + lets(13) + "}", 2, throwingBad(40).length() + 4);
        House.faulty(2, "fn f(){" + lets(13) + throwingBad(41).substring(7) + "}", 2, 7 + lets(12).length() + 4);
    }

    private static String throwingBad(int n) {
        StringBuilder text = new StringBuilder("fn f(){");
        for (int i = 0; i < n; i++) {
            text.append("bad k").append(i).append("(1);");
        }
        return text.toString();
    }
}
