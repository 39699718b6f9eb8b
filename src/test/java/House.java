/** A FourTongues with what the tests need around it: texts as Strings, and answers held against what is due. */
final class House {
    private static int wrong = 0;
    private static int asked = 0;
    private static String sentence = "";
    static final String[] TONGUES = {"throws", "codes", "values", "exits"};
    final Counted x = new Counted();
    private final String[] texts = {"", "", "", ""};

    /** The bytes of a text go onto the TAPE, with blanks up to the next 20. */
    int feedText(String text) {
        int fed = 0;
        for (int i = 0; i < text.length(); i += 20) {
            int[] v = new int[5];
            for (int k = 0; k < 20; k++) {
                int c = i + k < text.length() ? text.charAt(i + k) : ' ';
                v[k / 4] = v[k / 4] << 8 | c;
            }
            fed = x.feed(v[0], v[1], v[2], v[3], v[4]);
        }
        return fed;
    }

    int take(int t, String text) {
        feedText(text);
        return x.load(t, text.length());
    }

    /** A text that is to be taken. */
    House with(int t, String text) {
        int got = take(t, text);
        if (got < 0) {
            due("load of " + text, got, 1);
        }
        texts[t] = text;
        return this;
    }

    /** A text that has a FAULT of this kind at this place, and is not taken. */
    static void faulty(int t, String text, int kind, int place) {
        House house = new House();
        due("load of " + text, house.take(t, text), -place - 1);
        due("fault of " + text, house.x.fault(), kind);
        due("no function of " + text, house.x.call(t, 0, 0), 3);
        due("no names of " + text, house.x.look(10), 11);
    }

    static void fine(int t, String text, int functions) {
        House house = new House();
        due("load of " + text, house.take(t, text), functions);
        due("fault of " + text, house.x.fault(), 0);
    }

    House answers(int t, int f, long a, long answer) {
        due("outcome of " + t + "." + f + "(" + a + ")", x.call(t, f, a), 0);
        due("look 0", x.look(0), 0);
        due("answer of " + t + "." + f + "(" + a + ")", x.answer(), answer);
        return this;
    }

    House answersReal(int t, int f, long a, double answer) {
        return answers(t, f, a, Double.doubleToRawLongBits(answer));
    }

    House answersNone(int t, int f, long a) {
        answers(t, f, a, 0);
        due("sort of the answer", x.look(1), 0);
        return this;
    }

    House fails(int t, int f, long a, int what) {
        due("outcome of " + t + "." + f + "(" + a + ")", x.call(t, f, a), 1);
        due("look 0", x.look(0), 1);
        due("no sort of an answer", x.look(1), 0);
        due("no answer", x.answer(), 0);
        due("TONGUE of what failed", x.failure(0, 0), t);
        due("what failed in " + t + "." + f + "(" + a + ")", x.failure(0, 1), what);
        return this;
    }

    House looks(int what, int want) {
        due("look " + what, x.look(what), want);
        return this;
    }

    House marks(long... want) {
        due("how many marks", x.look(3), want.length);
        for (int i = 0; i < want.length; i++) {
            due("mark " + i, x.mark(i), want[i]);
        }
        due("mark behind the last", x.mark(want.length), 0);
        due("its tongue", x.markTongue(want.length), -1);
        return this;
    }

    House failure(int i, int... want) {
        for (int what = 0; what < want.length; what++) {
            due("failure " + i + " " + what, x.failure(i, what), want[what]);
        }
        return this;
    }

    /** Where a statement begins in a TONGUE's text; what stands ahead of an @ only finds it. */
    int place(int tongue, String statement) {
        int ahead = statement.indexOf('@') + 1;
        String found = statement.replace("@", "");
        int at = texts[tongue].indexOf(found);
        if (at < 0 || texts[tongue].indexOf(found, at + 1) >= 0) {
            throw new IllegalArgumentException("not once in the text: " + found);
        }
        return at + Math.max(ahead - 1, 0);
    }

    /** The FAILURE's TONGUE, what it is, its statement, and what else is known. */
    House failureAt(int i, int tongue, int what, String statement, int... more) {
        failure(i, tongue, what, place(tongue, statement));
        for (int k = 0; k < more.length; k++) {
            due("failure " + i + " " + (k + 3), x.failure(i, k + 3), more[k]);
        }
        return this;
    }

    House underAt(int i, int k, int tongue, int what, String statement, int... more) {
        under(i, k, tongue, what, place(tongue, statement));
        for (int n = 0; n < more.length; n++) {
            due("under " + i + " " + k + " " + (n + 3), x.under(i, k, n + 3), more[n]);
        }
        return this;
    }

    House under(int i, int k, int... want) {
        for (int what = 0; what < want.length; what++) {
            due("under " + i + " " + k + " " + what, x.under(i, k, what), want[what]);
        }
        return this;
    }

    /** The document's words that the answers from here on hold against the class. */
    static void sentence(String words) {
        sentence = words;
    }

    /** A whole NUMBER as a TONGUE's answers and MARKS tell it. */
    static long told(int tongue, long whole) {
        return tongue == 3 ? Double.doubleToRawLongBits((double) whole) : whole;
    }

    House answersWhole(int t, int f, long a, long whole) {
        return answers(t, f, a, told(t, whole)).looks(1, 1);
    }

    /** MARKS of one TONGUE, all whole. */
    House marksOf(int t, long... wholes) {
        long[] want = wholes.clone();
        for (int i = 0; i < want.length; i++) {
            want[i] = told(t, want[i]);
        }
        return marks(want);
    }

    House isSpent(int t, int f, long a) {
        due("outcome of " + t + "." + f + "(" + a + ")", x.call(t, f, a), 2);
        due("look 0", x.look(0), 2);
        due("no sort of an answer", x.look(1), 0);
        due("no answer", x.answer(), 0);
        due("no FAILURE", x.failure(0, 0), -1);
        return this;
    }

    static void due(String what, long got, long want) {
        asked++;
        if (got != want) {
            wrong++;
            String where = "";
            for (StackTraceElement e : new Throwable().getStackTrace()) {
                if (!e.getClassName().equals("House")) {
                    where = e.toString();
                    break;
                }
            }
            System.out.println(where + ": " + what + " answered " + got + ", due is " + want + (sentence.isEmpty() ? "" : " by: " + sentence));
        }
    }

    static void due(String what, boolean got, boolean want) {
        due(what, got ? 1 : 0, want ? 1 : 0);
    }

    static void close(String test) {
        System.out.println(test + ": " + asked + " answers, " + wrong + " wrong");
        if (wrong > 0) {
            System.exit(1);
        }
    }
}
