import java.math.BigInteger;

/**
 * The boundary cases that the document names in promises 20 and 21. A method for each sentence, which stands above it;
 * answers are worked out by hand.
 */
public final class PointEdgesTest {
    private static final Due DUE = new Due("PointEdgesTest");
    private static final int[] FIELDS = {2, 3, 5, 257, 65519, 65521};
    private static final long[] ANY = {0, 1, -1, 1L << 31, -(1L << 31), 1L << 32, -(1L << 32), Long.MAX_VALUE,
        Long.MAX_VALUE - 1, Long.MIN_VALUE, Long.MIN_VALUE + 1};

    public static void main(String[] args) {
        fortyOne();
        fortyOneInTheirField();
        sameX();
        sameXModulo();
        fewNumbers();
        valuesModulo();
        xModulo();
        refusedPoint();
        withoutPoints();
        onePoint();
        leastDegree();
        greatestDegree();
        noPointsAnyMore();
        noPointsWhenFull();
        withoutPointsWhenFull();
        primeTakesPoints();
        pointsStay();
        DUE.end();
    }

    private static long modulo(long n, long p) {
        return BigInteger.valueOf(n).mod(BigInteger.valueOf(p)).longValue();
    }

    /** "how many", "NONE: 41 are there". */
    private static void fortyOne() {
        PolyWork w = Make.field(65521);
        for (int k = 0; k < 41; k++) {
            DUE.is("point " + k, w.point(k, 2 * k), k + 1);
        }
        DUE.is("one more", w.point(41, 82), -1);
        DUE.is("one more", w.point(-1, -2), -1);
        DUE.is("one more with an x that is there", w.point(0, 0), -1);
        DUE.is("one more with an x that is there", w.point(40, 1), -1);
        DUE.row("2 x", w, w.interpolate(), 0, 2);
        DUE.is("room again", w.point(41, 82), 1);
    }

    /** The same where the field has a number more than that, or no number more. */
    private static void fortyOneInTheirField() {
        PolyWork w = Make.field(43);
        for (int k = 42; k >= 2; k--) {
            DUE.is("point " + k, w.point(k, k), 43 - k);
        }
        DUE.is("41 are there", w.point(1, 1), -1);
        DUE.is("41 are there", w.point(0, 0), -1);
        DUE.row("x", w, w.interpolate(), 0, 1);
        PolyWork v = Make.field(41);
        for (int k = 0; k <= 40; k++) {
            DUE.is("point " + k, v.point(k, 7), k + 1);
        }
        DUE.is("no x is left", v.point(41, 7), -1);
        DUE.row("7", v, v.interpolate(), 7);
    }

    /** "or one with this x": with another value too, the first and the latest. */
    private static void sameX() {
        PolyWork w = Make.field(7);
        DUE.is("3", w.point(3, 1), 1);
        DUE.is("3 again", w.point(3, 1), -1);
        DUE.is("3 with another value", w.point(3, 2), -1);
        DUE.is("4", w.point(4, 2), 2);
        DUE.is("4 again", w.point(4, 2), -1);
        DUE.is("3 again", w.point(3, 0), -1);
        DUE.is("2", w.point(2, 0), 3);
        DUE.row("x - 2", w, w.interpolate(), 5, 1);
    }

    /** "x .. modulo p": x that differ by multiples of p are one. */
    private static void sameXModulo() {
        for (int p : FIELDS) {
            PolyWork w = Make.field(p);
            DUE.is("p - 1", w.point(p - 1, 0), 1);
            DUE.is("-1", w.point(-1, 0), -1);
            DUE.is("2 p - 1", w.point(2 * p - 1, 0), -1);
            DUE.is("-p - 1", w.point(-p - 1, 0), -1);
            DUE.is("0", w.point(0, 0), 2);
            DUE.is("p", w.point(p, 0), -1);
            DUE.is("-p", w.point(-p, 0), -1);
            DUE.is("a far multiple", w.point(Long.MAX_VALUE / p * p, 0), -1);
            DUE.is("a far multiple", w.point(-(Long.MAX_VALUE / p) * p, 0), -1);
            DUE.is("a step from it", w.point(Long.MAX_VALUE / p * p - 1, 0), -1);
        }
    }

    /** A field of 2 or 3 numbers has no more points than these. */
    private static void fewNumbers() {
        PolyWork w = new PolyWork();
        DUE.is("0", w.point(0, 1), 1);
        DUE.is("1", w.point(1, 0), 2);
        for (long x : ANY) {
            DUE.is("x " + x, w.point(x, 1), -1);
        }
        DUE.row("x + 1", w, w.interpolate(), 1, 1);
        PolyWork v = Make.field(3);
        for (int k = 0; k < 3; k++) {
            DUE.is("x " + k, v.point(k, k * k), k + 1);
        }
        for (long x : ANY) {
            DUE.is("x " + x, v.point(x, 1), -1);
        }
        DUE.row("x^2", v, v.interpolate(), 0, 0, 1);
    }

    /** "x and value modulo p": the value. */
    private static void valuesModulo() {
        for (int p : FIELDS) {
            PolyWork w = Make.field(p);
            for (long v : ANY) {
                DUE.is("point", w.point(1, v), 1);
                DUE.row("value " + v, w, w.interpolate(), modulo(v, p));
            }
            for (long v : new long[] {p - 1, p, p + 1, -p, 1 - p}) {
                DUE.is("point", w.point(0, v), 1);
                DUE.row("value " + v, w, w.interpolate(), modulo(v, p));
            }
        }
    }

    /** The same of x: a line through 0 and a far x. */
    private static void xModulo() {
        for (int p : new int[] {257, 65519, 65521}) {
            for (long x : ANY) {
                if (modulo(x, p) != 0) {
                    PolyWork w = Make.field(p);
                    w.point(0, 0);
                    DUE.is("x " + x, w.point(x, modulo(x, p)), 2);
                    DUE.row("the line of x " + x, w, w.interpolate(), 0, 1);
                }
            }
        }
    }

    /** "What is refused changes nothing": neither the count nor the value that is there. */
    private static void refusedPoint() {
        PolyWork w = Make.field(7);
        w.point(1, 3);
        w.point(8, 5);
        DUE.is("the count", w.point(2, 3), 2);
        w.point(2, 6);
        w.point(1, 6);
        DUE.row("3", w, w.interpolate(), 3);
    }

    /** "(0 without)". */
    private static void withoutPoints() {
        for (int p : FIELDS) {
            PolyWork w = Make.field(p);
            DUE.is("its PLACE", w.interpolate(), 0);
            DUE.row("0", w, 0);
            DUE.is("its PLACE", w.interpolate(), 1);
            DUE.row("0", w, 1);
        }
    }

    /** One point, a step from none: a number. */
    private static void onePoint() {
        for (int p : FIELDS) {
            PolyWork w = Make.field(p);
            w.point(-1, -1);
            DUE.row("p - 1", w, w.interpolate(), p - 1);
            w.point(-1, 0);
            DUE.row("0", w, w.interpolate());
        }
    }

    /** "the PLAIN one of least DEGREE": points of a line are a line, and values 0 make 0. */
    private static void leastDegree() {
        PolyWork w = Make.field(65521);
        for (int k = 0; k < 20; k++) {
            w.point(k * k, 3L * k * k - 5);
        }
        DUE.row("3 x - 5", w, w.interpolate(), 65516, 3);
        for (int k = 0; k < 41; k++) {
            w.point(k * k, 0);
        }
        DUE.row("0", w, w.interpolate());
        for (int k = 0; k < 41; k++) {
            w.point(-k, 65520);
        }
        DUE.row("-1", w, w.interpolate(), 65520);
    }

    /** 41 points may make DEGREE 40, the greatest; 40 points 39. */
    private static void greatestDegree() {
        PolyWork w = Make.field(41);
        for (int k = 0; k <= 40; k++) {
            w.point(k, k == 0 ? 1 : 0);
        }
        long[] due = new long[41];
        due[0] = 1;
        due[40] = 40;
        DUE.row("1 - x^40", w, w.interpolate(), due);
        for (int k = 1; k <= 40; k++) {
            w.point(k, k == 40 ? 1 : 0);
        }
        int a = w.interpolate();
        DUE.is("DEGREE 39", w.degree(a, 0), 39);
        DUE.is("at 40", w.value(a, 40, 0), 1);
        DUE.is("at 39", w.value(a, 39, 0), 0);
        // 40 points say nothing of 0, where the product of the x - k for k 1 .. 39 over its value at 40 is 40.
        DUE.is("at 0", w.value(a, 0, 0), 40);
    }

    /** "no points any more": the same x are free again. */
    private static void noPointsAnyMore() {
        PolyWork w = Make.field(7);
        w.point(1, 3);
        w.point(2, 4);
        DUE.is("its PLACE", w.interpolate(), 0);
        DUE.row("x + 2", w, 0, 2, 1);
        DUE.is("none are left", w.interpolate(), 1);
        DUE.row("0", w, 1);
        DUE.is("the first", w.point(1, 5), 1);
        DUE.is("the second", w.point(2, 5), 2);
        DUE.row("5", w, w.interpolate(), 5);
    }

    /** "(also when no PLACE is free)". */
    private static void noPointsWhenFull() {
        PolyWork w = Make.field(7);
        Make.fill(w, 0);
        w.point(1, 3);
        w.point(2, 4);
        DUE.is("-5", w.interpolate(), -5);
        DUE.is("x 1 is free again", w.point(1, 5), 1);
        w.drop(30);
        DUE.is("its PLACE", w.interpolate(), 30);
        DUE.row("5", w, 30, 5);
        for (int k = 0; k < 7; k++) {
            w.point(k, k);
        }
        DUE.is("-5", w.interpolate(), -5);
        w.drop(31);
        DUE.is("its PLACE", w.interpolate(), 31);
        DUE.row("0", w, 31);
    }

    /** Both at once: no points, no PLACE. */
    private static void withoutPointsWhenFull() {
        PolyWork w = Make.field(7);
        Make.fill(w, 1);
        DUE.is("the last PLACE", w.interpolate(), 99);
        DUE.row("0", w, 99);
        DUE.is("-5", w.interpolate(), -5);
        DUE.is("the first point", w.point(1, 1), 1);
    }

    /** "no points any more" of prime(), and a refused one leaves them. */
    private static void primeTakesPoints() {
        PolyWork w = Make.field(7);
        w.point(1, 3);
        w.point(2, 4);
        DUE.is("refused", w.prime(8), false);
        DUE.is("they are there", w.point(3, 5), 3);
        DUE.is("refused", w.prime(1), false);
        DUE.is("x 1 is there", w.point(1, 5), -1);
        DUE.is("another field", w.prime(5), true);
        DUE.is("the first", w.point(1, 3), 1);
        DUE.is("the same field", w.prime(5), true);
        DUE.row("none", w, w.interpolate());
    }

    /** Other calls, refused or not, leave the points. */
    private static void pointsStay() {
        PolyWork w = Make.field(7);
        w.point(1, 3);
        w.point(2, 4);
        int x = w.variable(0);
        w.factor(x);
        w.take(0);
        w.power(x, 3, x);
        for (int act = -1; act <= 14; act++) {
            w.apply(act, x, x);
            w.apply(act, x, 99);
        }
        w.drop(x);
        DUE.is("they are there", w.point(3, 5), 3);
        DUE.row("x + 2", w, w.interpolate(), 2, 1);
    }
}
