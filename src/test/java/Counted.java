/** A FourTongues whose calls are counted: behind the 512th the document promises nothing, so no test goes there. */
final class Counted {
    private static final int MOST = 512;
    private final FourTongues x = new FourTongues();
    private int calls = 0;

    /** How many calls the object is still good for. */
    int left() {
        return MOST - calls;
    }

    private FourTongues used() {
        calls++;
        if (calls > MOST) {
            throw new IllegalStateException("a test uses one object for more than 512 calls");
        }
        return x;
    }

    int feed(int a, int b, int c, int d, int e) {
        return used().feed(a, b, c, d, e);
    }

    int load(int t, int n) {
        return used().load(t, n);
    }

    int fault() {
        return used().fault();
    }

    int letter(int name, int k) {
        return used().letter(name, k);
    }

    boolean rule(int from, int to, int rule) {
        return used().rule(from, to, rule);
    }

    boolean entry(int from, int to, int what, int as) {
        return used().entry(from, to, what, as);
    }

    int call(int t, int f, long a) {
        return used().call(t, f, a);
    }

    int look(int what) {
        return used().look(what);
    }

    long answer() {
        return used().answer();
    }

    long mark(int i) {
        return used().mark(i);
    }

    int markTongue(int i) {
        return used().markTongue(i);
    }

    int failure(int i, int what) {
        return used().failure(i, what);
    }

    int under(int i, int k, int what) {
        return used().under(i, k, what);
    }
}
