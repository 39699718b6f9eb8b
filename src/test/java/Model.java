import java.math.BigDecimal;
import java.math.BigInteger;
import java.util.ArrayList;
import java.util.Arrays;
import java.util.HashMap;
import java.util.LinkedHashMap;
import java.util.List;
import java.util.Map;

/** The document once more, as a walker of trees with Java's own exceptions: what FuzzTest holds FourTongues against. */
final class Model {
    static final class Fail {
        int tongue, what, place, how, function;
        Object value;
        Fail from;
        final List<Fail> under = new ArrayList<>();
    }

    static final class Arr {
        final int tongue;
        final Object[] cells;

        Arr(int tongue, int n) {
            this.tongue = tongue;
            cells = new Object[n];
        }
    }

    record Fun(int tongue, int number) { }

    record Token(String kind, String text, int place, Object value) { }

    static final class Node {
        final String op;
        final int place;
        final List<Node> kids = new ArrayList<>();
        String name, second;
        Object value;
        int tongue;

        Node(String op, int place, Node... kids) {
            this.op = op;
            this.place = place;
            this.kids.addAll(Arrays.asList(kids));
        }
    }

    static final class Func {
        String name;
        List<String> parameters = new ArrayList<>();
        Node body;
    }

    static class Signal extends RuntimeException {
        Signal() {
            super(null, null, false, false);
        }
    }

    static final class Spent extends Signal { }

    static final class Fault extends Signal {
        final int place;

        Fault(int place) {
            this.place = place;
        }
    }

    static final class Under extends Signal {
        final Fail fail;

        Under(Fail fail) {
            this.fail = fail;
        }
    }

    static final class Return extends Signal {
        final Object value;

        Return(Object value) {
            this.value = value;
        }
    }

    static final class Frame {
        int tongue, function, place;
        Map<String, Object> variables = new HashMap<>();
        List<String> opens;
    }

    static final String[] TONGUE_WORDS = {"throws", "codes", "values", "exits"};
    static final List<String> WORDS = Arrays.asList(("kind under fn let if else while return mark throw try catch finally "
        + "fail on go with end exit open then clean do none new size cell tag bad throws codes values exits").split(" "));
    static final BigInteger PETA = BigInteger.TEN.pow(17);

    final List<Integer> tape = new ArrayList<>();
    List<String> names = new ArrayList<>(Arrays.asList("", "zero", "index", "nothing", "sort", "size", "deep", "trap",
        "lost", "border", "any", "machine"));
    Map<String, String> above = new HashMap<>();
    final List<List<Func>> texts = new ArrayList<>();
    final int[][] rules = new int[4][4];
    final int[][] defaults = new int[4][4];
    final Map<List<Integer>, Integer> entries = new LinkedHashMap<>();
    int lastFault = 0;

    final List<Frame> frames = new ArrayList<>();
    final List<Object> marks = new ArrayList<>();
    final List<Integer> markTongues = new ArrayList<>();
    int outcome, steps, markCount, dropped, passed, turned, deepest, life, cell, cells, answerTongue;
    Object answer;
    Fail came;

    Model() {
        for (int t = 0; t < 4; t++) {
            texts.add(new ArrayList<>());
            Arrays.fill(defaults[t], 9);
        }
        for (int i = 1; i <= 7; i++) {
            above.put(names.get(i), "machine");
        }
    }

    // ---- the face

    int feed(int a, int b, int c, int d, int e) {
        if (tape.size() > 2980) {
            return -1;
        }
        for (int v : new int[] {a, b, c, d, e}) {
            for (int k = 3; k >= 0; k--) {
                tape.add(v >>> 8 * k & 255);
            }
        }
        return tape.size();
    }

    int load(int t, int n) {
        if (t < 0 || t > 3 || n < 0 || n > tape.size()) {
            return -5000;
        }
        List<Integer> text = new ArrayList<>(tape.subList(0, n));
        tape.clear();
        List<String> oldNames = new ArrayList<>(names);
        Map<String, String> oldAbove = new HashMap<>(above);
        Reader reader = new Reader(text, t);
        List<Func> functions = null;
        int one = -1;
        try {
            functions = reader.text();
        } catch (Fault fault) {
            one = fault.place;
        }
        lastFault = one >= 0 ? 1 : reader.two != Integer.MAX_VALUE ? 2 : reader.three != Integer.MAX_VALUE ? 3 : 0;
        if (lastFault == 0) {
            texts.set(t, functions);
            return functions.size();
        }
        names = oldNames;
        above = oldAbove;
        return -(lastFault == 1 ? one : lastFault == 2 ? reader.two : reader.three) - 1;
    }

    int fault() {
        return lastFault;
    }

    int letter(int name, int k) {
        if (name < 1 || name >= names.size() || k < 0 || k >= names.get(name).length()) {
            return -1;
        }
        return names.get(name).charAt(k);
    }

    boolean rule(int from, int to, int rule) {
        if ((from | to) < 0 || from > 3 || to > 3 || from == to || rule < 0 || rule > 2) {
            return false;
        }
        rules[from][to] = rule;
        return true;
    }

    boolean fits(int tongue, int what) {
        return tongue == 1 ? what != 0 : what > 0 && what < names.size();
    }

    boolean entry(int from, int to, int what, int as) {
        if ((from | to) < 0 || from > 3 || to > 3 || from == to || !fits(to, as)) {
            return false;
        }
        if (what == 0) {
            defaults[from][to] = as;
            return true;
        }
        List<Integer> key = List.of(from, to, what);
        if (!fits(from, what) || !entries.containsKey(key) && entries.size() == 100) {
            return false;
        }
        entries.put(key, as);
        return true;
    }

    int call(int t, int f, long a) {
        if (t < 0 || t > 3 || f < 0 || f >= texts.get(t).size()) {
            return 3;
        }
        Object number = turnNumber(a, 0, t, 0);
        if (number == null) {
            return 4;
        }
        frames.clear();
        marks.clear();
        markTongues.clear();
        outcome = steps = markCount = dropped = passed = turned = deepest = cells = 0;
        answer = null;
        came = null;
        answerTongue = t;
        try {
            Object got = runFunction(t, f, new ArrayList<>(List.of(number)), new ArrayList<>());
            if (got instanceof Fail fail) {
                throw new Under(fail);
            }
            answer = got;
        } catch (Under under) {
            outcome = 1;
            came = under.fail;
        } catch (Spent spent) {
            outcome = 2;
        }
        return outcome;
    }

    static int sort(Object value) {
        return value == null ? 0 : value instanceof Arr ? 2 : value instanceof Fun ? 3 : 1;
    }

    static long bits(Object number) {
        return number instanceof Double d ? Double.doubleToRawLongBits(d) : (Long) number;
    }

    int look(int what) {
        int[] told = {outcome, sort(answer), steps, markCount, dropped, passed, turned, deepest, life, cell, names.size() - 1};
        return what < 0 || what > 10 ? -1 : told[what];
    }

    long answer() {
        if (answer == null) {
            return 0;
        }
        if (answer instanceof Arr arr) {
            return arr.cells.length;
        }
        return answer instanceof Fun fun ? 64L * fun.tongue + fun.number : bits(answer);
    }

    long mark(int i) {
        return i < 0 || i >= marks.size() ? 0 : bits(marks.get(i));
    }

    int markTongue(int i) {
        return i < 0 || i >= marks.size() ? -1 : markTongues.get(i);
    }

    int failure(int i, int what) {
        return tell(chain(i), what);
    }

    int under(int i, int k, int what) {
        Fail fail = chain(i);
        return fail == null || k < 0 || k >= fail.under.size() ? -1 : tell(fail.under.get(k), what);
    }

    private Fail chain(int i) {
        Fail fail = i < 0 ? null : came;
        for (int k = 0; k < i && fail != null; k++) {
            fail = fail.from;
        }
        return fail;
    }

    private static int tell(Fail f, int what) {
        if (f == null || what < 0 || what > 6) {
            return -1;
        }
        return new int[] {f.tongue, f.what, f.place, f.how, f.under.size(), sort(f.value), f.function}[what];
    }

    // ---- numbers and borders

    static BigDecimal exact(Object number) {
        return number instanceof Double d ? new BigDecimal(d) : BigDecimal.valueOf((Long) number);
    }

    static boolean within(int tongue, BigInteger n) {
        return switch (tongue) {
            case 0 -> n.bitLength() < 64;
            case 1 -> n.bitLength() < 32;
            default -> n.abs().compareTo(PETA) <= 0;
        };
    }

    /** null if it isn't turned. */
    static Object turnNumber(Object number, int from, int to, int rule) {
        if (from == to) {
            return number;
        }
        BigDecimal exact = exact(number);
        if (to == 3) {
            double near = ((Long) number).doubleValue();
            return rule != 0 || new BigDecimal(near).compareTo(exact) == 0 ? (Object) near : null;
        }
        BigInteger whole = exact.toBigInteger();
        if (rule == 0) {
            return new BigDecimal(whole).compareTo(exact) == 0 && within(to, whole) ? (Object) whole.longValue() : null;
        }
        BigInteger least = BigInteger.valueOf(Long.MIN_VALUE);
        BigInteger most = BigInteger.valueOf(Long.MAX_VALUE);
        if (rule == 1) {
            long asLong = whole.max(least).min(most).longValue();
            return to == 0 ? asLong : to == 1 ? (long) (int) asLong : asLong % 100000000000000000L;
        }
        if (to == 1) {
            least = BigInteger.valueOf(Integer.MIN_VALUE);
            most = BigInteger.valueOf(Integer.MAX_VALUE);
        } else if (to == 2) {
            least = PETA.negate();
            most = PETA;
        }
        return whole.max(least).min(most).longValue();
    }

    static boolean isNumber(Object value) {
        return value instanceof Long || value instanceof Double;
    }

    /** A Fail stands for what isn't turned. */
    Object turn(Object value, int from, int to) {
        if (!isNumber(value)) {
            return value;
        }
        Object turned = turnNumber(value, from, to, rules[from][to]);
        return turned == null ? new Fail() : turned;
    }

    // ---- running

    Frame here() {
        return frames.get(frames.size() - 1);
    }

    void step() {
        if (steps == 5000 || life == 80000) {
            throw new Spent();
        }
        steps++;
        life++;
    }

    Fail make(int what, Object value, int how, Fail from) {
        step();
        Fail f = new Fail();
        f.tongue = here().tongue;
        f.what = what;
        f.place = here().place;
        f.how = how;
        f.function = here().function;
        f.value = value;
        f.from = from;
        return f;
    }

    /** What fails arises: a VALUE in 2, otherwise it goes out. */
    Object arise(Fail f) {
        if (here().tongue == 2) {
            return f;
        }
        if (here().tongue == 1) {
            cell = f.what;
        }
        throw new Under(f);
    }

    Object arise(int what) {
        return arise(make(what, null, 0, null));
    }

    /** Likewise at a statement. */
    void ariseOut(int what) {
        throw new Return(arise(what));
    }

    Object runFunction(int t, int number, List<Object> arguments, List<String> opens) {
        Func func = texts.get(t).get(number);
        Frame frame = new Frame();
        frame.tongue = t;
        frame.function = number;
        frame.opens = opens;
        for (int i = 0; i < func.parameters.size() && i < arguments.size(); i++) {
            frame.variables.put(func.parameters.get(i), arguments.get(i));
        }
        frames.add(frame);
        deepest = Math.max(deepest, frames.size());
        int depth = frames.size();
        int opened = opens.size();
        Object result = null;
        try {
            block(func.body);
        } catch (Return left) {
            result = left.value;
        } catch (Under under) {
            frames.remove(depth - 1);
            throw under;
        }
        frames.remove(depth - 1);
        if (opens.size() != opened) {
            throw new IllegalStateException("opens");
        }
        return result;
    }

    Object invoke(int to, int number, List<Object> arguments) {
        int from = here().tongue;
        if (from != to) {
            for (int i = 0; i < arguments.size(); i++) {
                step();
                Object turnedOne = turn(arguments.get(i), from, to);
                if (turnedOne instanceof Fail) {
                    return arise(9);
                }
                arguments.set(i, turnedOne);
            }
        }
        if (frames.size() == 24) {
            return arise(6);
        }
        if (from == to) {
            return invokeOwn(to, number, arguments);
        }
        passed++;
        Fail fail;
        try {
            Object got = runFunction(to, number, arguments, new ArrayList<>());
            if (!(got instanceof Fail)) {
                Object back = turn(got, to, from);
                return back instanceof Fail ? arise(9) : back;
            }
            fail = (Fail) got;
        } catch (Under under) {
            if (under.fail.tongue == from) {
                throw under;
            }
            fail = under.fail;
        }
        return overBorder(fail, from);
    }

    Object invokeOwn(int tongue, int number, List<Object> arguments) {
        try {
            return runFunction(tongue, number, arguments, here().opens);
        } catch (Under under) {
            if (tongue != 1) {
                throw under;
            }
            return mild(under.fail);
        }
    }

    boolean inOn = false;

    /** In 1 a call that fails: go of an on, or none. */
    Object mild(Fail f) {
        cell = f.what;
        if (here().opens.contains("on" + frames.size())) {
            throw new Under(f);
        }
        return null;
    }

    Object overBorder(Fail f, int to) {
        int from = f.tongue;
        Integer as = entries.get(List.of(from, to, f.what));
        if (from == 0) {
            String kind = names.get(f.what);
            while (as == null && !kind.equals("any")) {
                kind = above.getOrDefault(kind, "any");
                as = entries.get(List.of(from, to, names.indexOf(kind)));
            }
        }
        Object value = turn(f.value, from, to);
        Fail g = make(as != null ? as : defaults[from][to], value instanceof Fail ? null : value, as != null ? 1 : 2, f);
        turned++;
        return to == 1 ? mild(g) : arise(g);
    }

    void block(Node block) {
        for (Node statement : block.kids) {
            statement(statement);
        }
    }

    void statement(Node s) {
        Frame frame = here();
        step();
        frame.place = s.place;
        switch (s.op) {
            case "let" -> frame.variables.put(s.name, work(s.kids.get(0)));
            case "put" -> put(s);
            case "do" -> {
                if (work(s.kids.get(0)) instanceof Fail) {
                    dropped++;
                }
            }
            case "if" -> {
                if (isTrue(s.kids.get(0))) {
                    block(s.kids.get(1));
                } else if (s.kids.size() > 2) {
                    block(s.kids.get(2));
                }
            }
            case "while" -> {
                while (isTrue(s.kids.get(0))) {
                    block(s.kids.get(1));
                    step();
                    frame.place = s.place;
                }
            }
            case "return" -> throw new Return(work(s.kids.get(0)));
            case "mark" -> mark(s);
            case "throw" -> arise(make(names.indexOf(s.name), work(s.kids.get(0)), 0, null));
            case "try" -> tryCatch(s);
            case "fail" -> {
                Object code = work(s.kids.get(0));
                if (!isNumber(code)) {
                    arise(4);
                } else if ((Long) code != 0) {
                    arise(((Long) code).intValue());
                }
            }
            case "on" -> onGo(s);
            case "with" -> finishing(() -> block(s.kids.get(0)), s.kids.get(1));
            case "clean" -> finishing(() -> block(s.kids.get(1)), s.kids.get(0));
            case "exit" -> {
                Object value = work(s.kids.get(0));
                boolean open = frame.opens.contains(s.name);
                arise(open ? make(names.indexOf(s.name), value, 0, null) : make(8, null, 0, null));
            }
            case "open" -> openThen(s);
            default -> throw new IllegalStateException(s.op);
        }
    }

    void mark(Node s) {
        Object value = work(s.kids.get(0));
        if (value instanceof Fail) {
            throw new Return(value);
        }
        if (!isNumber(value)) {
            ariseOut(4);
        }
        markCount++;
        if (marks.size() < 200) {
            marks.add(value);
            markTongues.add(here().tongue);
        }
    }

    boolean isTrue(Node question) {
        Object value = work(question);
        if (value instanceof Fail) {
            throw new Return(value);
        }
        if (!isNumber(value)) {
            ariseOut(4);
        }
        return exact(value).signum() != 0;
    }

    void put(Node s) {
        Object x = here().variables.get(s.name);
        Object i = work(s.kids.get(0));
        Object e = work(s.kids.get(1));
        comesTo(x, askArray(x));
        comesTo(i, askIndex((Arr) x, i));
        comesTo(e, 0);
        Arr arr = (Arr) x;
        Object back = turn(e, here().tongue, arr.tongue);
        if (back instanceof Fail) {
            ariseOut(4);
        }
        arr.cells[exact(i).intValue()] = back;
    }

    /** A part comes to a cell's =: one that FAILS is the function's answer, one that won't do arises as what it is. */
    void comesTo(Object part, int what) {
        if (part instanceof Fail) {
            throw new Return(part);
        }
        if (what != 0) {
            ariseOut(what);
        }
    }

    int askArray(Object x) {
        return x instanceof Arr ? 0 : x == null ? 3 : 4;
    }

    int askIndex(Arr x, Object i) {
        if (!isNumber(i)) {
            return 4;
        }
        BigDecimal exact = exact(i);
        boolean has = exact.signum() >= 0 && exact.compareTo(BigDecimal.valueOf(x.cells.length)) < 0
            && exact.remainder(BigDecimal.ONE).signum() == 0;
        return has ? 0 : 2;
    }

    boolean isUnder(String kind, String other) {
        String k = kind;
        while (!k.equals(other)) {
            if (k.equals("any")) {
                return false;
            }
            k = above.getOrDefault(k, "any");
        }
        return true;
    }

    void tryCatch(Node s) {
        Node last = s.kids.get(s.kids.size() - 1);
        if (last.op.equals("finally")) {
            finishing(() -> guarded(s), last.kids.get(0));
        } else {
            guarded(s);
        }
    }

    void guarded(Node s) {
        int depth = frames.size();
        try {
            block(s.kids.get(0));
        } catch (Under under) {
            for (Node c : s.kids) {
                if (c.op.equals("catch") && isUnder(names.get(under.fail.what), c.name)) {
                    checkDepth(depth);
                    here().variables.put(c.second, under.fail.value);
                    block(c.kids.get(0));
                    return;
                }
            }
            throw under;
        }
    }

    void checkDepth(int depth) {
        if (frames.size() != depth) {
            throw new IllegalStateException("frames");
        }
    }

    void finishing(Runnable first, Node finish) {
        Signal underWay = null;
        int depth = frames.size();
        try {
            first.run();
        } catch (Under | Return signal) {
            underWay = signal;
        }
        checkDepth(depth);
        Fail old = failOf(underWay);
        try {
            block(finish);
        } catch (Under | Return signal) {
            Fail young = failOf(signal);
            if (young != null && old != null && young != old) {
                young.under.add(0, old);
            }
            throw signal;
        }
        if (underWay != null) {
            throw underWay;
        }
    }

    static Fail failOf(Signal signal) {
        if (signal instanceof Under under) {
            return under.fail;
        }
        return signal instanceof Return left && left.value instanceof Fail fail ? fail : null;
    }

    void onGo(Node s) {
        List<String> opens = here().opens;
        int size = opens.size();
        int depth = frames.size();
        opens.add("on" + depth);
        boolean failed = false;
        try {
            block(s.kids.get(0));
        } catch (Under under) {
            failed = true;
        } finally {
            cut(opens, size);
        }
        if (failed) {
            checkDepth(depth);
            block(s.kids.get(1));
        }
    }

    static void cut(List<String> list, int size) {
        while (list.size() > size) {
            list.remove(list.size() - 1);
        }
    }

    void openThen(Node s) {
        List<String> opens = here().opens;
        int size = opens.size();
        int depth = frames.size();
        opens.add(s.name);
        try {
            block(s.kids.get(0));
            return;
        } catch (Under under) {
            if (!names.get(under.fail.what).equals(s.name)) {
                throw under;
            }
            checkDepth(depth);
            here().variables.put(s.second, under.fail.value);
        } finally {
            cut(opens, size);
        }
        block(s.kids.get(1));
    }

    // ---- expressions

    Object work(Node e) {
        switch (e.op) {
            case "number": return e.value;
            case "none": return null;
            case "variable": return here().variables.get(e.name);
            case "cell": return (long) cell;
            case "else": {
                Object first = work(e.kids.get(0));
                return first instanceof Fail ? work(e.kids.get(1)) : first;
            }
            case "tag": return work(e.kids.get(0)) instanceof Fail f ? (long) f.what : 0L;
            case "&": {
                int number = find(e.tongue, e.name);
                return number < 0 ? arise(3) : new Fun(e.tongue, number);
            }
            default: break;
        }
        List<Object> parts = new ArrayList<>();
        for (Node kid : e.kids) {
            Object part = work(kid);
            if (part instanceof Fail) {
                return part;
            }
            parts.add(part);
        }
        return workParts(e, parts);
    }

    int find(int tongue, String name) {
        List<Func> text = texts.get(tongue);
        for (int i = 0; i < text.size(); i++) {
            if (text.get(i).name.equals(name)) {
                return i;
            }
        }
        return -1;
    }

    Object workParts(Node e, List<Object> parts) {
        switch (e.op) {
            case "call": {
                step();
                int number = find(e.tongue, e.name);
                return number < 0 ? arise(3) : invoke(e.tongue, number, parts);
            }
            case "held": {
                step();
                Object held = parts.remove(0);
                if (!(held instanceof Fun fun)) {
                    return arise(held == null ? 3 : 4);
                }
                return invoke(fun.tongue, fun.number, parts);
            }
            case "index": return readCell(parts.get(0), parts.get(1));
            case "new": return makeArray(parts.get(0));
            case "size": {
                Object x = parts.get(0);
                return x instanceof Arr arr ? number(arr.cells.length) : arise(x == null ? 3 : 4);
            }
            case "bad": return make(names.indexOf(e.name), parts.get(0), 0, null);
            case "minus": {
                step();
                Object x = parts.get(0);
                if (!isNumber(x)) {
                    return arise(4);
                }
                return x instanceof Double d ? (Object) (-d) : fitting(BigInteger.valueOf((Long) x).negate());
            }
            default: return sign(e.op, parts.get(0), parts.get(1));
        }
    }

    Object number(long n) {
        return here().tongue == 3 ? (Object) (double) n : (Object) n;
    }

    Object readCell(Object x, Object i) {
        int what = askArray(x);
        if (what == 0) {
            what = askIndex((Arr) x, i);
        }
        if (what != 0) {
            return arise(what);
        }
        Arr arr = (Arr) x;
        if (arr.tongue != here().tongue) {
            step();
        }
        Object value = turn(arr.cells[exact(i).intValue()], arr.tongue, here().tongue);
        return value instanceof Fail ? arise(4) : value;
    }

    Object makeArray(Object n) {
        step();
        if (!isNumber(n)) {
            return arise(4);
        }
        BigDecimal exact = exact(n);
        if (exact.signum() < 0 || exact.compareTo(BigDecimal.valueOf(400)) > 0 || exact.remainder(BigDecimal.ONE).signum() != 0
            || cells + exact.intValue() + 1 > 20000) {
            return arise(5);
        }
        cells += exact.intValue() + 1;
        return new Arr(here().tongue, exact.intValue());
    }

    Object fitting(BigInteger n) {
        int tongue = here().tongue;
        if (tongue == 0) {
            return n.longValue();
        }
        return within(tongue, n) ? (Object) n.longValue() : arise(7);
    }

    Object sign(String sign, Object x, Object y) {
        step();
        if (sign.equals("==") || sign.equals("!=")) {
            boolean same = isNumber(x) && isNumber(y) ? exact(x).compareTo(exact(y)) == 0
                : x instanceof Fun ? x.equals(y) : x == y;
            return number(same == sign.equals("==") ? 1 : 0);
        }
        if (!isNumber(x) || !isNumber(y)) {
            return arise(4);
        }
        int order = exact(x).compareTo(exact(y));
        switch (sign) {
            case "<": return number(order < 0 ? 1 : 0);
            case "<=": return number(order <= 0 ? 1 : 0);
            case ">": return number(order > 0 ? 1 : 0);
            case ">=": return number(order >= 0 ? 1 : 0);
            default: break;
        }
        if ("/%".contains(sign) && exact(y).signum() == 0) {
            return arise(1);
        }
        return x instanceof Double a ? signOfReals(sign, a, (Double) y)
            : signOfWholes(sign, BigInteger.valueOf((Long) x), BigInteger.valueOf((Long) y));
    }

    Object signOfReals(String sign, double a, double b) {
        double z = switch (sign) {
            case "+" -> a + b;
            case "-" -> a - b;
            case "*" -> a * b;
            case "/" -> a / b;
            default -> a % b;
        };
        return Double.isInfinite(z) ? arise(7) : z;
    }

    Object signOfWholes(String sign, BigInteger a, BigInteger b) {
        return fitting(switch (sign) {
            case "+" -> a.add(b);
            case "-" -> a.subtract(b);
            case "*" -> a.multiply(b);
            case "/" -> a.divide(b);
            default -> a.remainder(b);
        });
    }

    // ---- texts

    final class Reader {
        final List<Token> tokens = new ArrayList<>();
        final int tongue;
        int at = 0;
        int depth = 0;
        int two = Integer.MAX_VALUE;
        int three = Integer.MAX_VALUE;
        List<Func> functions = new ArrayList<>();
        List<String> variables;
        int counted;

        Reader(List<Integer> text, int tongue) {
            this.tongue = tongue;
            StringBuilder b = new StringBuilder();
            for (int c : text) {
                b.append((char) c);
            }
            scan(b.toString());
        }

        void scan(String s) {
            int i = 0;
            while (i < s.length()) {
                char c = s.charAt(i);
                int end = i + 1;
                if (c == ' ' || c == '\n') {
                    i++;
                    continue;
                }
                if (c >= 'a' && c <= 'z') {
                    while (end < s.length() && (s.charAt(end) >= 'a' && s.charAt(end) <= 'z' || digit(s, end))) {
                        end++;
                    }
                    String text = s.substring(i, end);
                    tokens.add(new Token(text.length() > 8 ? "wrong" : WORDS.contains(text) ? text : "NAME", text, i, null));
                } else if (digit(s, i)) {
                    end = numberAt(s, i);
                } else if (i + 1 < s.length() && List.of("==", "!=", "<=", ">=").contains(s.substring(i, i + 2))) {
                    end = i + 2;
                    tokens.add(new Token(s.substring(i, end), null, i, null));
                } else if ("(){}[],;.&!=<>+-*/%".indexOf(c) >= 0) {
                    tokens.add(new Token("" + c, null, i, null));
                } else {
                    tokens.add(new Token("wrong", null, i, null));
                }
                i = end;
            }
            tokens.add(new Token("end of text", null, s.length(), null));
        }

        boolean digit(String s, int i) {
            return i < s.length() && s.charAt(i) >= '0' && s.charAt(i) <= '9';
        }

        int numberAt(String s, int from) {
            int end = from;
            while (digit(s, end)) {
                end++;
            }
            if (tongue == 3 && end < s.length() && s.charAt(end) == '.' && digit(s, end + 1)) {
                end++;
                while (digit(s, end)) {
                    end++;
                }
            }
            String text = s.substring(from, end);
            Object value;
            boolean wrong;
            if (tongue == 3) {
                wrong = text.replace(".", "").length() > 15;
                value = Double.parseDouble(text);
            } else {
                BigInteger n = new BigInteger(text);
                wrong = !within(tongue, n);
                value = n.longValue();
            }
            tokens.add(new Token(wrong ? "wrong" : "NUMBER", text, from, value));
            return end;
        }

        String kind() {
            return tokens.get(at).kind;
        }

        boolean is(String kind) {
            return kind().equals(kind);
        }

        Token take(String kind) {
            Token t = tokens.get(at);
            if (!t.kind.equals(kind)) {
                throw new Fault(t.place);
            }
            at++;
            return t;
        }

        void open(String kind) {
            Token t = take(kind);
            if (++depth > 8) {
                throw new Fault(t.place);
            }
        }

        void close(String kind) {
            take(kind);
            depth--;
        }

        boolean took(String kind) {
            if (is(kind)) {
                at++;
                return true;
            }
            return false;
        }

        void two(int place) {
            two = Math.min(two, place);
        }

        void three(int place) {
            three = Math.min(three, place);
        }

        Token failing() {
            Token t = take("NAME");
            if (!names.contains(t.text)) {
                if (names.size() == 52) {
                    two(t.place);
                } else {
                    names.add(t.text);
                }
            }
            return t;
        }

        List<Func> text() {
            while (!is("end of text")) {
                if (tongue == 0 && took("kind")) {
                    String kind = failing().text;
                    take("under");
                    Token other = failing();
                    if (isUnder(other.text, kind)) {
                        three(other.place);
                    } else {
                        above.put(kind, other.text);
                    }
                    take(";");
                } else {
                    take("fn");
                    function();
                }
            }
            return functions;
        }

        void function() {
            Token name = take("NAME");
            Func f = new Func();
            f.name = name.text;
            if (functions.size() >= 40) {
                two(name.place);
            }
            if (functions.stream().anyMatch(g -> g.name.equals(name.text))) {
                three(name.place);
            }
            functions.add(f);
            variables = new ArrayList<>();
            open("(");
            if (!is(")")) {
                do {
                    Token p = take("NAME");
                    if (f.parameters.size() >= 4) {
                        two(p.place);
                    }
                    if (f.parameters.contains(p.text)) {
                        three(p.place);
                    }
                    f.parameters.add(p.text);
                } while (took(","));
            }
            close(")");
            variables.addAll(f.parameters);
            counted = variables.size();
            f.body = block();
        }

        Node block() {
            Node b = new Node("block", tokens.get(at).place);
            open("{");
            while (!is("}")) {
                b.kids.add(statement());
            }
            close("}");
            return b;
        }

        Token variable(Token t) {
            if (!variables.contains(t.text)) {
                three(t.place);
            }
            return t;
        }

        Node simple(String op, int place) {
            Node s = new Node(op, place, expression(null));
            take(";");
            return s;
        }

        Node named(String op, int place) {
            String name = failing().text;
            Node s = simple(op, place);
            s.name = name;
            return s;
        }

        void second(Node s) {
            s.name = failing().text;
            s.second = take("NAME").text;
            if (!variables.contains(s.second)) {
                variables.add(s.second);
            }
        }

        Node question() {
            open("(");
            Node e = expression(null);
            close(")");
            return e;
        }

        Node statement() {
            int place = tokens.get(at).place;
            String kind = kind();
            switch (kind) {
                case "let": at++; return let(place);
                case "return": case "mark": at++; return simple(kind, place);
                case "while": at++; return new Node(kind, place, question(), block());
                case "if": {
                    at++;
                    Node s = new Node(kind, place, question(), block());
                    if (took("else")) {
                        s.kids.add(block());
                    }
                    return s;
                }
                case "NAME": return nameFirst(place);
                default: break;
            }
            Node s = switch (tongue + kind) {
                case "0throw", "3exit" -> {
                    at++;
                    yield named(kind, place);
                }
                case "1fail" -> {
                    at++;
                    yield simple(kind, place);
                }
                case "0try" -> tryOf(place);
                case "1on" -> pair("on", "go", place);
                case "2with" -> pair("with", "end", place);
                case "3clean" -> pair("clean", "do", place);
                case "3open" -> {
                    at++;
                    Node o = new Node("open", place);
                    second(o);
                    o.kids.add(block());
                    take("then");
                    o.kids.add(block());
                    yield o;
                }
                default -> null;
            };
            return s != null ? s : simple("do", place);
        }

        Node pair(String first, String then, int place) {
            take(first);
            Node s = new Node(first, place, block());
            take(then);
            s.kids.add(block());
            return s;
        }

        Node tryOf(int place) {
            take("try");
            Node s = new Node("try", place, block());
            while (is("catch")) {
                Node c = new Node("catch", tokens.get(at++).place);
                second(c);
                c.kids.add(block());
                s.kids.add(c);
            }
            if (is("finally") || s.kids.size() == 1) {
                take("finally");
                s.kids.add(new Node("finally", place, block()));
            }
            return s;
        }

        Node let(int place) {
            Token name = take("NAME");
            if (!variables.contains(name.text)) {
                variables.add(name.text);
                if (++counted > 12) {
                    two(name.place);
                }
            }
            take("=");
            Node s = simple("let", place);
            s.name = name.text;
            return s;
        }

        Node nameFirst(int place) {
            if (tokens.get(at + 1).kind.equals("=")) {
                Token name = variable(take("NAME"));
                take("=");
                Node s = simple("let", place);
                s.name = name.text;
                return s;
            }
            if (!tokens.get(at + 1).kind.equals("[")) {
                return simple("do", place);
            }
            Token name = variable(take("NAME"));
            open("[");
            Node i = expression(null);
            close("]");
            Node x = new Node("variable", 0);
            x.name = name.text;
            if (took("=")) {
                Node s = new Node("put", place, i, expression(null));
                s.name = name.text;
                take(";");
                return s;
            }
            Node s = new Node("do", place, expression(new Node("index", 0, x, i)));
            take(";");
            return s;
        }

        Node expression(Node begun) {
            Node q = level(begun, 0);
            if (tongue == 2 && is("else")) {
                open("else");
                q = new Node("else", 0, q, expression(null));
                depth--;
            }
            return q;
        }

        final List<List<String>> levels = List.of(List.of("==", "!=", "<", "<=", ">", ">="), List.of("+", "-"), List.of("*", "/", "%"));

        Node level(Node begun, int level) {
            if (level == 3) {
                return begun != null ? begun : unary();
            }
            Node left = level(begun, level + 1);
            while (levels.get(level).contains(kind())) {
                String sign = kind();
                at++;
                left = new Node(sign, 0, left, level(null, level + 1));
                if (level == 0) {
                    break;
                }
            }
            return left;
        }

        Node unary() {
            if (!is("-")) {
                return primary();
            }
            open("-");
            Node u = new Node("minus", 0, unary());
            depth--;
            return u;
        }

        Node bracketed(String op, String from, String to) {
            open(from);
            Node e = expression(null);
            close(to);
            return op == null ? e : new Node(op, 0, e);
        }

        Node arguments(Node node) {
            open("(");
            int count = 0;
            if (!is(")")) {
                do {
                    if (++count > 8) {
                        two(tokens.get(at).place);
                    }
                    node.kids.add(expression(null));
                } while (took(","));
            }
            close(")");
            return node;
        }

        Node primary() {
            Token t = tokens.get(at);
            int word = Arrays.asList(TONGUE_WORDS).indexOf(t.kind);
            if (word >= 0) {
                at++;
                take(".");
                return callOf(word, take("NAME").text);
            }
            if (tongue == 1 && took("cell")) {
                return new Node("cell", 0);
            }
            if (tongue == 2 && took("tag")) {
                return bracketed("tag", "(", ")");
            }
            if (tongue == 2 && took("bad")) {
                String name = failing().text;
                Node bad = bracketed("bad", "(", ")");
                bad.name = name;
                return bad;
            }
            at++;
            switch (t.kind) {
                case "NUMBER": {
                    Node n = new Node("number", 0);
                    n.value = t.value;
                    return n;
                }
                case "none": return new Node("none", 0);
                case "new": return bracketed("new", "[", "]");
                case "size": return bracketed("size", "(", ")");
                case "(": at--; return bracketed(null, "(", ")");
                case "&": {
                    Node n = new Node("&", 0);
                    word = Arrays.asList(TONGUE_WORDS).indexOf(kind());
                    n.tongue = word >= 0 ? word : tongue;
                    if (word >= 0) {
                        at++;
                        take(".");
                    }
                    n.name = take("NAME").text;
                    return n;
                }
                case "NAME": return afterName(t);
                default: throw new Fault(t.place);
            }
        }

        Node callOf(int to, String name) {
            Node n = new Node("call", 0);
            n.tongue = to;
            n.name = name;
            return arguments(n);
        }

        Node afterName(Token t) {
            if (is("(")) {
                return callOf(tongue, t.text);
            }
            variable(t);
            Node v = new Node("variable", 0);
            v.name = t.text;
            if (took("!")) {
                return arguments(new Node("held", 0, v));
            }
            if (is("[")) {
                open("[");
                Node i = expression(null);
                close("]");
                return new Node("index", 0, v, i);
            }
            return v;
        }
    }
}
