import java.util.Random;

/** The NUMBERS of the four TONGUES, as answers tell them (promises 8, 10 and 11). */
public final class NumbersTest {
    public static void main(String[] args) {
        longs();
        ints();
        wholes();
        doubles();
        ends();
        rests();
        House.close("NumbersTest");
    }

    private static House signs(int t) {
        return new House().with(t, "fn f(a) { return a + 1; } fn g(a) { return a - 1; } fn h(a) { return a * a; } fn k(a) { return -a; } "
            + "fn l(a) { return 7 / a; } fn m(a) { return 7 % a; } fn n(a) { return a / (0 - 2); } fn o(a) { return a % (0 - 4); } fn p(a) { return a / (0 - 1); } "
            + "fn q(a) { return a % (0 - 1); } fn r(a) { return none + a; } fn s(a) { return a * new[1]; } fn u(a) { return a < none; } fn v(a) { return -none; } "
            + "fn w(a) { return (a == none) + (none == none) * 10 + (a != &f) * 100 + (a == a) * 1000; }");
    }

    private static void longs() {
        House house = signs(0);
        house.answers(0, 0, Long.MAX_VALUE, Long.MIN_VALUE).answers(0, 1, Long.MIN_VALUE, Long.MAX_VALUE);
        house.answers(0, 2, 4294967296L, 0).answers(0, 2, -3037000500L, -9223372036709301616L);
        house.answers(0, 3, Long.MIN_VALUE, Long.MIN_VALUE).answers(0, 8, Long.MIN_VALUE, Long.MIN_VALUE).answers(0, 9, Long.MIN_VALUE, 0);
        towardsZero(house, 0);
        house.answers(0, 14, 5, 1110);
    }

    private static void towardsZero(House house, int t) {
        house.fails(t, 4, 0, 1).fails(t, 5, 0, 1);
        house.answers(t, 4, -2, -3).answers(t, 5, -2, 1).answers(t, 6, 7, -3).answers(t, 7, 7, 3).answers(t, 7, -7, -3).answers(t, 6, -7, 3);
        for (int f = 10; f <= 13; f++) {
            house.fails(t, f, 1, 4);
        }
    }

    private static void ints() {
        House house = signs(1);
        house.fails(1, 0, 2147483647, 7).answers(1, 0, 2147483646, 2147483647).fails(1, 1, -2147483648L, 7).answers(1, 1, -2147483647L, -2147483648L);
        house.answers(1, 2, 46340, 2147395600).fails(1, 2, 46341, 7).fails(1, 2, -2147483648L, 7);
        house.fails(1, 3, -2147483648L, 7).answers(1, 3, 2147483647, -2147483647).fails(1, 8, -2147483648L, 7).answers(1, 9, -2147483648L, 0);
        towardsZero(house, 1);
        house.answers(1, 14, 5, 1110);
    }

    private static void wholes() {
        House house = signs(2);
        long most = 100000000000000000L;
        house.fails(2, 0, most, 7).answers(2, 0, most - 1, most).fails(2, 1, -most, 7).answers(2, 1, 1 - most, -most);
        house.answers(2, 2, 316227766, 316227766L * 316227766L).fails(2, 2, 316227767, 7).fails(2, 2, most, 7).fails(2, 2, -4294967296L, 7);
        house.answers(2, 3, -most, most).answers(2, 3, most, -most).answers(2, 8, -most, most);
        towardsZero(house, 2);
        house.answers(2, 14, 5, 1110);
    }

    private static void doubles() {
        House house = signs(3);
        house.answersReal(3, 0, 3, 4.0).answersReal(3, 1, 3, 2.0).answersReal(3, 2, -3, 9.0).answersReal(3, 3, 3, -3.0).answersReal(3, 3, 0, -0.0);
        house.answersReal(3, 4, 2, 3.5).answersReal(3, 4, 3, 7.0 / 3).fails(3, 4, 0, 1).fails(3, 5, 0, 1);
        house.answersReal(3, 7, 7, 3.0).answersReal(3, 7, -7, -3.0).answersReal(3, 7, -8, -0.0).answersReal(3, 7, 8, 0.0);
        for (int f = 10; f <= 13; f++) {
            house.fails(3, f, 1, 4);
        }
        house.answersReal(3, 14, 5, 1110);
        house = fresh();
        double power = 1;
        for (int i = 0; i <= 308; i++) {
            house.answersReal(3, 0, i, power);
            power = power * 10;
            if (i % 50 == 0) {
                house = fresh();
            }
        }
        house.fails(3, 0, 309, 7).fails(3, 0, 320, 7);
        house.answersReal(3, 1, 1022, 0x1p-1022).answersReal(3, 1, 1023, 0x1p-1023).answersReal(3, 1, 1074, 0x1p-1074).answersReal(3, 1, 1075, 0.0);
        house = fresh();
        house.fails(3, 2, 1, 1).fails(3, 3, 1, 1).answersReal(3, 4, 0, 1).answersReal(3, 5, 0, 2).answersReal(3, 6, 0, 0.1 + 0.2);
        house.answersReal(3, 7, 0, 123456789.012345).answersReal(3, 8, 0, 1e-14).answersReal(3, 9, 0, 999999999999999.0).answersReal(3, 10, 0, 0.1 * 3 - 0.3);
        double e308 = 1;
        for (int i = 0; i < 308; i++) {
            e308 = e308 * 10;
        }
        house.answersReal(3, 11, 0, 0 - e308 * 1.7).fails(3, 12, 0, 7).fails(3, 13, 0, 7);
    }

    /** The greatest double, and what lies half a step and a whole one beyond. */
    private static void ends() {
        House house = new House().with(3, "fn m() { let x = 9007199254740 * 1000 + 991; let n = 97; while (n) { x = x * 1024; n = n - 1; } return x * 2; } fn p(x) { let n = 96; while (n) { x = x * 1024; n = n - 1; } return x; } "
            + "fn f(a) { return m(); } fn g(a) { return -m(); } fn h(a) { return m() + p(512); } fn k(a) { return m() + p(1024); } fn l(a) { return -m() - p(1024); } fn o(a) { return m() % -m(); } fn q(a) { return -m() % 3; }");
        house.answersReal(3, 2, 0, Double.MAX_VALUE).answersReal(3, 3, 0, -Double.MAX_VALUE).answersReal(3, 4, 0, Double.MAX_VALUE);
        house.fails(3, 5, 0, 7).fails(3, 6, 0, 7).answersReal(3, 7, 0, 0.0).answersReal(3, 8, 0, -Double.MAX_VALUE % 3);
    }

    /** A new house, whose life has no STEPS yet. */
    private static House fresh() {
        return new House().with(3, DOUBLES);
    }

    private static final String DOUBLES = "fn f(a) { let x = 1; while (a) { x = x * 10; a = a - 1; } return x; } "
        + "fn g(a) { let x = 1; while (a >= 10) { x = x / 1024; a = a - 10; } while (a) { x = x / 2; a = a - 1; } return x; } fn h(a) { return a / -0; } fn k(a) { return a % -0; } "
        + "fn l(a) { return -0 == 0; } fn m(a) { if (-0) { return 1; } return 2; } fn n(a) { return 0.1 + 0.2; } fn o(a) { return 123456789.012345; } "
        + "fn p(a) { return 0.00000000000001; } fn q(a) { return 999999999999999; } fn r(a) { return 0.1 * 3 - 0.3; } fn s(a) { return 0 - f(308) * 1.7; } "
        + "fn u(a) { return 0 - f(308) - f(308); } fn v(a) { return 3 / g(1074); }";

    /** x * 2^p % (y * 2^q), against Java's own. */
    private static void rests() {
        Random random = new Random(7);
        for (int i = 0; i < 1500; i++) {
            long x = random.nextLong() >> random.nextInt(50) + 11;
            long y = (random.nextLong() >> random.nextInt(50) + 11) | 1;
            int p = random.nextInt(i % 3 == 0 ? 2000 : 200) - (i % 3 == 0 ? 1000 : 100);
            int q = random.nextInt(i % 3 == 0 ? 2000 : 200) - (i % 3 == 0 ? 1000 : 100);
            String text = "fn f(a) { return s(" + real(x) + ", " + real(p) + ") % s(" + real(y) + ", " + real(q) + "); } "
                + "fn s(x, n) { while (n >= 10) { x = x * 1024; n = n - 10; } while (n > 0) { x = x * 2; n = n - 1; } "
                + "while (n <= -10) { x = x / 1024; n = n + 10; } while (n < 0) { x = x / 2; n = n + 1; } return x; }";
            House house = new House().with(3, text);
            double left = scaled(x, p);
            double right = scaled(y, q);
            int got = house.x.call(3, 0, 0);
            if (Double.isInfinite(left) || Double.isInfinite(right) || right == 0) {
                House.due("outcome of " + text, got, 1);
            } else {
                House.due("outcome of " + text, got, 0);
                House.due("answer of " + text, house.x.answer(), Double.doubleToRawLongBits(left % right));
            }
        }
    }

    private static String real(long x) {
        long digits = Math.abs(x) % 1000000000000000L;
        return x < 0 ? "0 - " + digits : "" + digits;
    }

    private static double scaled(long x, int power) {
        double d = Math.abs(x) % 1000000000000000L;
        d = x < 0 ? 0 - d : d;
        int left = Math.abs(power);
        while (left > 0) {
            double by = left >= 10 ? 1024 : 2;
            d = power > 0 ? d * by : d / by;
            left -= left >= 10 ? 10 : 1;
        }
        return d;
    }
}
