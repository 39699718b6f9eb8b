/** Promises 3 and 4: texts that are taken, and FAULTS with their kinds and places. */
public final class TextTest {
    public static void main(String[] args) {
        wrongLoads();
        tokens();
        numbers();
        grammar();
        nesting();
        tooMuch();
        third();
        leastKind();
        replacing();
        House.close("TextTest");
    }

    private static void wrongLoads() {
        House house = new House();
        house.feedText("fn f(a) { return 1; }");
        House.due("tongue -1", house.x.load(-1, 1), -5000);
        House.due("tongue 4", house.x.load(4, 1), -5000);
        House.due("n -1", house.x.load(0, -1), -5000);
        House.due("n 41", house.x.load(0, 41), -5000);
        House.due("fault", house.x.fault(), 0);
        House.due("the TAPE stays", house.x.load(0, 21), 1);
        House.due("it is empty then", house.x.load(0, 1), -5000);
        house.feedText("fn");
        House.due("a FAULT", house.x.load(0, 2), -3);
        House.due("fault", house.x.fault(), 1);
        House.due("-5000 ..", house.x.load(0, 99), -5000);
        House.due(".. tells nothing", house.x.fault(), 1);
        house.answers(0, 0, 5, 1);
        House.due("nothing is a text", house.x.load(0, 0), 0);
        House.due("fault", house.x.fault(), 0);
        House.due("its function is gone", house.x.call(0, 0, 5), 3);
        house.feedText("fn f(a) { return 1; }xxxxx");
        House.due("only the first n", house.x.load(0, 21), 1);
    }

    private static void tokens() {
        House.fine(0, "", 0);
        House.fine(0, " \n \n", 0);
        House.fine(0, "fn\nf(){}fn g(){}", 2);
        House.fine(0, "fn abcdefgh(a1b2c3d4){}", 1);
        House.faulty(0, "fn abcdefghi(){}", 1, 3);
        House.faulty(0, "fn a2345678x(){}", 1, 3);
        House.faulty(0, "fn F(){}", 1, 3);
        House.faulty(0, "fn 1f(){}", 1, 3);
        House.faulty(0, "fn f_(){}", 1, 4);
        House.faulty(0, "fn f(){\t}", 1, 7);
        House.faulty(0, "fn f(){\r}", 1, 7);
        House.faulty(0, "fn f(){" + (char) 200 + "}", 1, 7);
        House.faulty(0, "\0fn f(){}", 1, 0);
        for (String word : ("kind under fn let if else while return mark throw try catch finally fail on go with end exit "
            + "open then clean do none new size cell tag bad throws codes values exits").split(" ")) {
            for (int t = 0; t < 4; t++) {
                House.faulty(t, "fn " + word + "(){}", 1, 3);
                House.faulty(t, "fn f(" + word + "){}", 1, 5);
                House.fine(t, "fn " + word.substring(1) + "1(" + word.substring(1) + "0){}", 1);
            }
        }
        House.fine(0, "fn f(a){a=a==a;a=a!=a;a=a<=a;a=a>=a;a=a<a;a=a>a;}", 1);
        House.faulty(0, "fn f(a){a=a= =a;}", 1, 11);
        House.faulty(0, "fn f(a){a=a! =a;}", 1, 13);
        House.faulty(0, "fn f(a){a=a< =a;}", 1, 13);
        House.faulty(0, "fn f(a){a===a;}", 1, 11);
        House.faulty(0, "fn f(a){a=a|a;}", 1, 11);
    }

    private static void numbers() {
        House.fine(0, "fn f(a){a=9223372036854775807;}", 1);
        House.faulty(0, "fn f(a){a=9223372036854775808;}", 1, 10);
        House.faulty(0, "fn f(a){a=99999999999999999999999;}", 1, 10);
        House.fine(0, "fn f(a){a=000000000000000000000000000000000001;}", 1);
        House.fine(1, "fn f(a){a=2147483647;}", 1);
        House.faulty(1, "fn f(a){a=2147483648;}", 1, 10);
        House.faulty(1, "fn f(a){a=-2147483648;}", 1, 11);
        House.fine(2, "fn f(a){a=100000000000000000;}", 1);
        House.faulty(2, "fn f(a){a=100000000000000001;}", 1, 10);
        House.fine(3, "fn f(a){a=999999999999999;}", 1);
        House.faulty(3, "fn f(a){a=1000000000000000;}", 1, 10);
        House.faulty(3, "fn f(a){a=0000000000000001;}", 1, 10);
        House.fine(3, "fn f(a){a=1.23456789012345;}", 1);
        House.faulty(3, "fn f(a){a=1.234567890123456;}", 1, 10);
        House.faulty(3, "fn f(a){a=1.;}", 1, 11);
        House.faulty(3, "fn f(a){a=.5;}", 1, 10);
        House.faulty(3, "fn f(a){a=1.5.5;}", 1, 13);
        House.faulty(3, "fn f(a){a=1 .5;}", 1, 12);
        House.faulty(0, "fn f(a){a=1.5;}", 1, 11);
        House.faulty(2, "fn f(a){a=1.5;}", 1, 11);
        House.faulty(0, "fn f(a){a=1a;}", 1, 11);
    }

    private static void grammar() {
        House.faulty(0, "f(){}", 1, 0);
        House.faulty(0, "fn", 1, 2);
        House.faulty(0, "fn ", 1, 3);
        House.faulty(0, "fn f(){ ", 1, 8);
        House.faulty(0, "fn f(a,){}", 1, 7);
        House.faulty(0, "fn f(a b){}", 1, 7);
        House.faulty(0, "fn f(){}}", 1, 8);
        House.faulty(0, "fn f(){let a;}", 1, 12);
        House.faulty(0, "fn f(){let 1=2;}", 1, 11);
        House.faulty(0, "fn f(a){a=;}", 1, 10);
        House.faulty(0, "fn f(a){a}", 1, 9);
        House.faulty(0, "fn f(a){a+;}", 1, 10);
        House.faulty(0, "fn f(a){;}", 1, 8);
        House.faulty(0, "fn f(a){{}}", 1, 8);
        House.faulty(0, "fn f(a){return;}", 1, 14);
        House.faulty(0, "fn f(a){if a {}}", 1, 11);
        House.faulty(0, "fn f(a){if (a) a=1;}", 1, 15);
        House.faulty(0, "fn f(a){if(a){} else if(a){}}", 1, 21);
        House.faulty(0, "fn f(a){else{}}", 1, 8);
        House.faulty(0, "fn f(a){a<a<a;}", 1, 11);
        House.fine(0, "fn f(a){(a<a)<a;a*a<a+a;}", 1);
        House.faulty(0, "fn f(a){a[1]=2=3;}", 1, 14);
        House.fine(0, "fn f(a){a[1]=2;a[a]==3;a[1]+2*3<4;a[1]*2;a(1)-a!(2,3);}", 1);
        House.faulty(0, "fn f(a){a[1][2];}", 1, 12);
        House.faulty(0, "fn f(a){a(1)=2;}", 1, 12);
        House.faulty(0, "fn f(a){a!1;}", 1, 10);
        House.faulty(0, "fn f(a){a.f();}", 1, 9);
        House.fine(0, "fn f(a){throws.f();codes.f(1);values.f(1,2);exits.x(a);a=&f;a=&codes.f;}", 1);
        House.faulty(0, "fn f(a){codes.f;}", 1, 15);
        House.faulty(0, "fn f(a){codes f();}", 1, 14);
        House.faulty(0, "fn f(a){a=&codes;}", 1, 16);
        House.faulty(0, "fn f(a){a=&1;}", 1, 11);
        House.faulty(0, "fn f(a){a=new(1);}", 1, 13);
        House.faulty(0, "fn f(a){a=size[1];}", 1, 14);
        House.fine(0, "fn f(a){a=new[size(a)];none;}", 1);
        ownGrammar();
    }

    private static void ownGrammar() {
        String[] own = {"throw foo 1;", "fail 1;", "with{}end{}", "exit foo 1;"};
        String[] more = {"try{}finally{}", "on{}go{}", "bad foo(1)else tag(1);", "open foo b{b;}then{b;}clean{}do{}"};
        String[] most = {"try{}catch any b{b;}catch zero c{}finally{}", "a=cell;", "a=a else a else 1;", "clean{}do{}"};
        for (int t = 0; t < 4; t++) {
            for (int u = 0; u < 4; u++) {
                for (String s : new String[] {own[u], more[u], most[u]}) {
                    String text = "fn f(a){" + s + "}";
                    House house = new House();
                    House.due("in " + t + " " + text, house.take(t, text) == 1, t == u);
                    House.due("fault in " + t + " " + text, house.x.fault(), t == u ? 0 : 1);
                }
            }
        }
        House.fine(0, "kind foo under bar; fn f(){} kind bar under zero;", 1);
        House.faulty(1, "kind foo under bar;", 1, 0);
        House.faulty(0, "kind foo bar;", 1, 9);
        House.faulty(0, "kind foo under bar", 1, 18);
        House.faulty(0, "kind foo under new;", 1, 15);
        House.faulty(0, "fn f(){try{}}", 1, 12);
        House.faulty(0, "fn f(){try{}catch foo{}}", 1, 21);
        House.faulty(0, "fn f(){try{}finally{}catch any x{}}", 1, 21);
        House.faulty(0, "fn f(){catch any x{}}", 1, 7);
        House.faulty(0, "fn f(){throw 1;}", 1, 13);
        House.faulty(0, "fn f(){throw foo;}", 1, 16);
        House.faulty(1, "fn f(){on{}}", 1, 11);
        House.faulty(2, "fn f(){with{}}", 1, 13);
        House.faulty(2, "fn f(){bad foo 1;}", 1, 15);
        House.faulty(2, "fn f(){bad(1);}", 1, 10);
        House.faulty(3, "fn f(){open foo x{}}", 1, 19);
        House.faulty(3, "fn f(){open foo{}then{}}", 1, 15);
        House.faulty(3, "fn f(){clean{}}", 1, 14);
        House.faulty(0, "fn f(a){a=a else 1;}", 1, 12);
    }

    private static void nesting() {
        House.fine(0, "fn f(a){((((((( a )))))));}", 1);
        House.faulty(0, "fn f(a){(((((((( a ))))))));}", 1, 15);
        House.fine(0, "fn f(a){-------a;}", 1);
        House.faulty(0, "fn f(a){--------a;}", 1, 15);
        House.fine(0, "fn f(a){-------a-a;-------a-a-a;1-1-1-1-1-1-1-1-1-1-1-1;}", 1);
        House.fine(0, "fn f(a){if(1){if(1){if(1){if(1){if(1){if(1){if(1){}}}}}}}}", 1);
        House.faulty(0, "fn f(a){if(1){if(1){if(1){if(1){if(1){if(1){if(1){if(1){}}}}}}}}}", 1, 52);
        House.faulty(0, "fn f(a){if(1){if(1){if(1){if(1){if(1){if(1){if(1){while((1)){}}}}}}}}}", 1, 55);
        House.fine(0, "fn f(a){a=new[new[new[new[new[new[new[1]]]]]]];}", 1);
        House.faulty(0, "fn f(a){a=new[new[new[new[new[new[new[new[1]]]]]]]];}", 1, 41);
        House.fine(2, "fn f(a){a else a else a else a else a else a else a else a;}", 1);
        House.faulty(2, "fn f(a){a else a else a else a else a else a else a else a else a;}", 1, 59);
        House.fine(2, "fn f(a){(a else a) else (a else a);(a else a else a else a else a else a else a);}", 1);
        House.fine(0, "fn f(a){f(f(f(f(f(f(f(1)))))));}", 1);
        House.faulty(0, "fn f(a){f(f(f(f(f(f(f(f(1))))))));}", 1, 23);
        House.faulty(0, "fn f(a){a[a[a[a[a[a[a[a[1]]]]]]]]=1;}", 1, 23);
        House.fine(0, "fn f(a){a[a[a[a[a[a[a[1]]]]]]]=1;}", 1);
    }

    private static void tooMuch() {
        House.fine(0, "fn f(a){f(1,2,3,4,5,6,7,8);}", 1);
        House.faulty(0, "fn f(a){f(1,2,3,4,5,6,7,8,(9),10);}", 2, 26);
        House.faulty(0, "fn f(a){a!(1,2,3,4,5,6,7,8,-9);}", 2, 27);
        House.faulty(0, "fn f(a){codes.f(1,2,3,4,5,6,7,8, 9);}", 2, 33);
        House.fine(0, "fn f(a,b,c,d){}", 1);
        House.faulty(0, "fn f(a,b,c,d,e,g){}", 2, 13);
        StringBuilder functions = new StringBuilder();
        for (int i = 0; i < 40; i++) {
            functions.append("fn f").append(i).append("(){}");
        }
        House.fine(0, functions.toString(), 40);
        House.faulty(0, functions + "fn g(){}", 2, functions.length() + 3);
        StringBuilder lets = new StringBuilder("fn f(a,b){let a=1;");
        for (int i = 0; i < 10; i++) {
            lets.append("let v").append(i).append("=1;").append("let v0=2;");
        }
        House.fine(0, lets + "}", 1);
        House.fine(0, lets + "}fn g(){let x=1;}", 2);
        House.faulty(0, lets + "let x=1;}", 2, lets.length() + 4);
        House.fine(0, lets + "try{}catch any x{}}", 1);
        names();
    }

    private static void names() {
        StringBuilder text = new StringBuilder("fn f(){");
        for (int i = 0; i < 40; i++) {
            text.append("throw k").append(i).append(" 1;");
        }
        House.fine(0, text + "throw zero 1;throw k39 1;}", 1);
        House.faulty(0, text + "throw oops 1;}", 2, text.length() + 6);
        House.faulty(0, text + "try{}catch oops x{}}", 2, text.length() + 11);
        House.faulty(0, text + "}kind oops under any;", 2, text.length() + 6);
        House.faulty(0, text + "}kind k0 under oops;", 2, text.length() + 15);
        House house = new House().with(0, text + "}").looks(10, 51);
        House.due("in another text", house.take(2, "fn f(){bad k1(1);bad oops(1);}"), -21 - 1);
        House.due("fault", house.x.fault(), 2);
        House.due("in a third", house.take(3, "fn f(){open oops x{}then{}}"), -12 - 1);
        House.due("a known one", house.take(3, "fn f(){exit k7 1;}"), 1);
    }

    private static void third() {
        House.faulty(0, "fn f(){}fn g(){}fn f(){}", 3, 19);
        House.faulty(0, "fn f(a,b,a){}", 3, 9);
        House.faulty(0, "fn f(){a;}", 3, 7);
        House.faulty(0, "fn f(){a=1;}", 3, 7);
        House.faulty(0, "fn f(){a[1]=1;}", 3, 7);
        House.faulty(0, "fn f(){a[1];}", 3, 7);
        House.faulty(0, "fn f(){a!(1);}", 3, 7);
        House.fine(0, "fn f(){a(1);throws.a();}", 1);
        House.faulty(0, "fn f(){1+a;let a=1;}", 3, 9);
        House.fine(0, "fn f(){let a=a;if(0){let b=1;}b=a;}", 1);
        House.faulty(0, "fn f(){let a=1;}fn g(){a;}", 3, 23);
        House.faulty(0, "fn f(a){}fn g(){a;}", 3, 16);
        House.fine(0, "fn f(){try{}catch any a{a;}a=1;}", 1);
        House.faulty(0, "fn f(){try{a;}catch any a{a;}}", 3, 11);
        House.fine(3, "fn f(){open any a{a;}then{}a=1;}", 1);
        House.faulty(3, "fn f(){a=1;open any a{}then{}}", 3, 7);
        House.faulty(0, "kind foo under foo;", 3, 15);
        House.faulty(0, "kind any under foo;", 3, 15);
        House.faulty(0, "kind machine under zero;", 3, 19);
        House.faulty(0, "kind a under b;kind b under c;kind c under a;", 3, 43);
        House.fine(0, "kind a under b;kind b under c;kind c under zero;kind a under c;kind zero under any;", 0);
        House.fine(0, "kind a under b;kind a under any;kind b under a;", 0);
        House house = new House().with(0, "kind a under b;");
        House.due("as told till then, in texts ahead, too", house.take(0, "kind b under a;"), -13 - 1);
        House.due("fault", house.x.fault(), 3);
        House.due("told otherwise", house.take(0, "kind a under any;kind b under a;"), 0);
    }

    private static void leastKind() {
        House.faulty(0, "fn f(){a;}fn g(a,b,c,d,e){}", 2, 23);
        House.faulty(0, "fn f(){a;}fn g(a,b,c,d,e){} 5", 1, 28);
        House.faulty(0, "fn f(){a;b;}fn f(){}", 3, 7);
        House.faulty(0, "fn f(a,b,c,d,e){f(1,2,3,4,5,6,7,8,9);}", 2, 13);
        House.faulty(0, "fn f(){f(1,2,3,4,5,6,7,8,9);}fn g(a,b,c,d,e){}", 2, 25);
        House.faulty(0, "fn f(){f(1,2,3,4,5,6,7,8,);}", 1, 25);
        House.faulty(0, "fn f(a,a,b,c,d){}", 2, 13);
    }

    private static void replacing() {
        House house = new House().with(0, "fn f(a){return 1;}fn g(a){return codes.f(a);}").with(1, "fn f(a){return 2;}");
        house.answers(0, 0, 0, 1).answers(0, 1, 0, 2).answers(1, 0, 0, 2);
        house.with(1, "fn f(a){return 3;}");
        house.answers(0, 1, 0, 3).answers(0, 0, 0, 1);
        House.due("a FAULT", house.take(1, "fn f(a){return 4;}}"), -19);
        house.answers(0, 1, 0, 3);
        house.with(1, "fn g(a){return 3;}");
        house.fails(0, 1, 0, 3);
        house.with(0, "fn f(a){return 5;}").answers(0, 0, 0, 5);
        House.due("g is gone", house.x.call(0, 1, 0), 3);
    }
}
