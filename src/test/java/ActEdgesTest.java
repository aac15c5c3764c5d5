import java.math.BigInteger;

/**
 * The boundary cases that the document names of the ACTS and of POWER MODULO (promises 5 and 7). A method for each
 * sentence, which stands above it; answers are worked out by hand.
 */
public final class ActEdgesTest {
    private static final Due DUE = new Due("ActEdgesTest");
    private static final int LEAST = Make.LEAST;
    private static final int MOST = Make.MOST;
    private static final int[] FIELDS = {2, 3, 5, 257, 65519, 65521};
    private static final int[] OFF = {LEAST, -1, 98, 99, 100, MOST};

    public static void main(String[] args) {
        actNumbers();
        onlyOnePlace();
        sumsOfNumbers();
        sumsAtTheTop();
        differences();
        productsInX();
        productsInY();
        productsWithZero();
        productNumbers();
        negatives();
        insteadOfXInX();
        insteadOfXInY();
        insteadOfYInX();
        insteadOfYInY();
        insteadOfNumbers();
        insteadTakesAny();
        insteadBySums();
        derivativesByX();
        derivativesByY();
        divisionDegrees();
        divisionByZero();
        divisionByNumbers();
        divisorsOfZero();
        divisorsAreMonic();
        inverseModuli();
        inverseCommon();
        inverseDegrees();
        resultantByYDegreesInY();
        resultantByYDegreesInX();
        resultantByYTooHigh();
        resultantByYRows();
        resultantByYOfNumbers();
        resultantByXOfZero();
        resultantByXOfNumbers();
        resultantByXRows();
        powerExponents();
        powerOfZero();
        powerModuli();
        powerPlain();
        DUE.end();
    }

    private static long modulo(long n, long p) {
        return BigInteger.valueOf(n).mod(BigInteger.valueOf(p)).longValue();
    }

    private static long[] t(long c, long i, long j) {
        return new long[] {c, i, j};
    }

    /** "No such act: -2, ahead of all": acts are 0 .. 13. */
    private static void actNumbers() {
        for (int act : new int[] {LEAST, -14, -1, 14, 15, 27, MOST}) {
            PolyWork w = Make.field(5);
            DUE.is("act " + act + " without PLACES", w.apply(act, 0, 0), -2);
            w.variable(1);
            DUE.is("act " + act, w.apply(act, 0, 0), -2);
            DUE.is("act " + act, w.apply(act, LEAST, MOST), -2);
        }
        PolyWork w = Make.field(5);
        int x = w.variable(0);
        w.variable(1);
        DUE.row("act 0 is there", w, w.apply(0, x, x), 0, 2);
        DUE.row("act 13 is there", w, w.apply(13, x, x));
    }

    /** "(b is not looked at)", of 3, 6 and 7: and of the others it is. */
    private static void onlyOnePlace() {
        for (int b : new int[] {LEAST, -1, 0, 1, 98, 99, 100, MOST}) {
            PolyWork w = Make.field(5);
            int a = Make.whole(w, t(1, 2, 0), t(2, 0, 3));
            DUE.holds("- a, b " + b, w, w.apply(3, a, b), t(4, 2, 0), t(3, 0, 3));
            DUE.holds("by x, b " + b, w, w.apply(6, a, b), t(2, 1, 0));
            DUE.holds("by y, b " + b, w, w.apply(7, a, b), t(1, 0, 2));
        }
        for (int act : new int[] {0, 1, 2, 4, 5, 8, 9, 10, 11, 12, 13}) {
            for (int b : OFF) {
                PolyWork w = Make.field(5);
                int one = w.constant(1);
                DUE.is("act " + act + ", b " + b, w.apply(act, one, b), -1);
                DUE.is("nothing has come", w.constant(1), 1);
            }
        }
        for (int act = 0; act <= 13; act++) {
            for (int a : OFF) {
                PolyWork w = Make.field(5);
                int one = w.constant(1);
                DUE.is("act " + act + ", a " + a, w.apply(act, a, one), -1);
                DUE.is("nothing has come", w.constant(1), 1);
            }
        }
    }

    /** 0: the numbers 0 .. p - 1 go round. */
    private static void sumsOfNumbers() {
        for (int p : FIELDS) {
            PolyWork w = Make.field(p);
            int last = w.constant(-1);
            int one = w.constant(1);
            int zero = w.constant(0);
            DUE.row("p - 1 and 0", w, w.apply(0, last, zero), p - 1);
            DUE.row("0 and p - 1", w, w.apply(0, zero, last), p - 1);
            DUE.row("p - 1 and 1", w, w.apply(0, last, one));
            DUE.row("p - 1 and p - 1", w, w.apply(0, last, last), p - 2);
            DUE.row("0 and 0", w, w.apply(0, zero, zero));
        }
    }

    /** 0 at x^40 y^6, which a sum may lose. */
    private static void sumsAtTheTop() {
        PolyWork w = Make.field(65521);
        int a = Make.whole(w, t(65520, 40, 6), t(3, 1, 0));
        int b = Make.term(w, 1, 40, 6);
        DUE.is("x^40 y^6 stays", w.at(w.apply(0, a, a), 40, 6), 65519);
        DUE.holds("x^40 y^6 goes", w, w.apply(0, a, b), t(3, 1, 0));
    }

    /** 1: below 0 the numbers go round. */
    private static void differences() {
        for (int p : FIELDS) {
            PolyWork w = Make.field(p);
            int last = w.constant(-1);
            int one = w.constant(1);
            int zero = w.constant(0);
            DUE.row("0 - 1", w, w.apply(1, zero, one), p - 1);
            DUE.row("0 - (p - 1)", w, w.apply(1, zero, last), 1);
            DUE.row("1 - (p - 1)", w, w.apply(1, one, last), modulo(2, p));
            DUE.row("a - a", w, w.apply(1, last, last));
            DUE.row("a - 0", w, w.apply(1, last, zero), p - 1);
        }
    }

    /** 2 and "-4 the answer has DEGREES above 40", in x. */
    private static void productsInX() {
        PolyWork w = Make.field(7);
        int x = w.variable(0);
        int x19 = Make.term(w, 1, 19, 0);
        int x20 = Make.term(w, 1, 20, 0);
        int x21 = Make.term(w, 1, 21, 0);
        int x39 = Make.term(w, 1, 39, 0);
        int x40 = Make.term(w, 1, 40, 0);
        DUE.holds("x^20 x^19", w, w.apply(2, x20, x19), t(1, 39, 0));
        DUE.holds("x^20 x^20", w, w.apply(2, x20, x20), t(1, 40, 0));
        DUE.is("x^20 x^21", w.apply(2, x20, x21), -4);
        DUE.is("x^21 x^20", w.apply(2, x21, x20), -4);
        DUE.holds("x^39 x", w, w.apply(2, x39, x), t(1, 40, 0));
        DUE.is("x^40 x", w.apply(2, x40, x), -4);
        DUE.is("x x^40", w.apply(2, x, x40), -4);
        DUE.is("x^40 x^40", w.apply(2, x40, x40), -4);
        DUE.holds("x^40 6", w, w.apply(2, x40, w.constant(6)), t(6, 40, 0));
    }

    /** 2 and "-4 the answer has DEGREES above .. 6", in y. */
    private static void productsInY() {
        PolyWork w = Make.field(7);
        int y = w.variable(1);
        int y3 = Make.term(w, 1, 0, 3);
        int y4 = Make.term(w, 1, 0, 4);
        int y6 = Make.term(w, 1, 0, 6);
        int x40 = Make.term(w, 1, 40, 0);
        DUE.holds("y^3 y^3", w, w.apply(2, y3, y3), t(1, 0, 6));
        DUE.is("y^3 y^4", w.apply(2, y3, y4), -4);
        DUE.is("y^4 y^3", w.apply(2, y4, y3), -4);
        DUE.is("y^6 y", w.apply(2, y6, y), -4);
        DUE.is("y y^6", w.apply(2, y, y6), -4);
        DUE.is("y^6 y^6", w.apply(2, y6, y6), -4);
        int top = w.apply(2, x40, y6);
        DUE.is("x^40 y^6", w.at(top, 40, 6), 1);
        DUE.is("x^40 y^6 y", w.apply(2, top, y), -4);
        int one = w.constant(1);
        DUE.is("x^40 y^6 1", w.same(w.apply(2, top, one), top), true);
        DUE.is("1 x^40 y^6", w.same(w.apply(2, one, top), top), true);
    }

    /** 2 of 0: it has no DEGREES, so none are too high. */
    private static void productsWithZero() {
        PolyWork w = Make.field(7);
        int zero = w.constant(0);
        int top = Make.term(w, 1, 40, 6);
        DUE.row("0 x^40 y^6", w, w.apply(2, zero, top));
        DUE.row("x^40 y^6 0", w, w.apply(2, top, zero));
        DUE.row("0 0", w, w.apply(2, zero, zero));
    }

    /** 2 with the greatest numbers of the greatest field at every power. */
    private static void productNumbers() {
        PolyWork w = Make.field(65521);
        long[] most = new long[21];
        java.util.Arrays.fill(most, 65520);
        int a = Make.plain(w, most);
        int b = w.apply(2, a, a);
        for (int i = 0; i <= 40; i++) {
            DUE.is("x^" + i, w.at(b, i, 0), Math.min(i, 40 - i) + 1);
        }
        for (int p : FIELDS) {
            PolyWork v = Make.field(p);
            int last = v.constant(-1);
            DUE.row("(p - 1)^2", v, v.apply(2, last, last), 1);
        }
    }

    /** 3: - 0 is 0, - 1 is p - 1. */
    private static void negatives() {
        for (int p : FIELDS) {
            PolyWork w = Make.field(p);
            DUE.row("- 0", w, w.apply(3, w.constant(0), 0));
            DUE.row("- 1", w, w.apply(3, w.constant(1), 0), p - 1);
            DUE.row("- (p - 1)", w, w.apply(3, w.constant(-1), 0), 1);
        }
        PolyWork w = Make.field(5);
        int top = Make.term(w, 2, 40, 6);
        DUE.holds("- 2 x^40 y^6", w, w.apply(3, top, 0), t(3, 40, 6));
    }

    /** 4, "each on the way within DEGREES, else -4": DEGREE 40 in x and above. */
    private static void insteadOfXInX() {
        PolyWork w = Make.field(3);
        int x = w.variable(0);
        int x2 = Make.term(w, 1, 2, 0);
        int x3 = Make.term(w, 1, 3, 0);
        int x13 = Make.term(w, 1, 13, 0);
        int x14 = Make.term(w, 1, 14, 0);
        int x20 = Make.term(w, 1, 20, 0);
        int x21 = Make.term(w, 1, 21, 0);
        int x40 = Make.term(w, 1, 40, 0);
        DUE.holds("x^13 of x^3", w, w.apply(4, x13, x3), t(1, 39, 0));
        DUE.is("x^14 of x^3", w.apply(4, x14, x3), -4);
        DUE.holds("x^20 of x^2", w, w.apply(4, x20, x2), t(1, 40, 0));
        DUE.is("x^21 of x^2", w.apply(4, x21, x2), -4);
        DUE.holds("x^2 of x^20", w, w.apply(4, x2, x20), t(1, 40, 0));
        DUE.is("x^2 of x^21", w.apply(4, x2, x21), -4);
        DUE.holds("x^40 of x", w, w.apply(4, x40, x), t(1, 40, 0));
        DUE.is("x^40 of x^2", w.apply(4, x40, x2), -4);
        DUE.holds("x of x^40", w, w.apply(4, x, x40), t(1, 40, 0));
        DUE.is("x^40 of x^40", w.apply(4, x40, x40), -4);
    }

    /** 4: DEGREE 6 in y and above. */
    private static void insteadOfXInY() {
        PolyWork w = Make.field(3);
        int x = w.variable(0);
        int y = w.variable(1);
        int y6 = Make.term(w, 1, 0, 6);
        DUE.holds("x^6 of y", w, w.apply(4, Make.term(w, 2, 6, 0), y), t(2, 0, 6));
        DUE.is("x^7 of y", w.apply(4, Make.term(w, 2, 7, 0), y), -4);
        DUE.is("x^40 of y", w.apply(4, Make.term(w, 1, 40, 0), y), -4);
        DUE.holds("x y^5 of y", w, w.apply(4, Make.term(w, 1, 1, 5), y), t(1, 0, 6));
        DUE.is("x y^6 of y", w.apply(4, Make.term(w, 1, 1, 6), y), -4);
        DUE.holds("x^3 y^3 of y", w, w.apply(4, Make.term(w, 1, 3, 3), y), t(1, 0, 6));
        DUE.is("x^3 y^4 of y", w.apply(4, Make.term(w, 1, 3, 4), y), -4);
        DUE.holds("x of y^6", w, w.apply(4, x, y6), t(1, 0, 6));
        DUE.is("x^2 of y^6", w.apply(4, Make.term(w, 1, 2, 0), y6), -4);
        int top = Make.term(w, 1, 40, 6);
        DUE.is("x of x^40 y^6", w.same(w.apply(4, x, top), top), true);
        DUE.is("x y of x^40 y^6", w.apply(4, Make.term(w, 1, 1, 1), top), -4);
    }

    /** 5: DEGREE 40 in x and above. */
    private static void insteadOfYInX() {
        PolyWork w = Make.field(3);
        int x6 = Make.term(w, 1, 6, 0);
        DUE.holds("x^3 y^6 of x^6", w, w.apply(5, Make.term(w, 1, 3, 6), x6), t(1, 39, 0));
        DUE.holds("x^4 y^6 of x^6", w, w.apply(5, Make.term(w, 1, 4, 6), x6), t(1, 40, 0));
        DUE.is("x^5 y^6 of x^6", w.apply(5, Make.term(w, 1, 5, 6), x6), -4);
        int y = w.variable(1);
        int x = w.variable(0);
        DUE.holds("x^39 y of x", w, w.apply(5, Make.term(w, 1, 39, 1), x), t(1, 40, 0));
        DUE.is("x^40 y of x", w.apply(5, Make.term(w, 1, 40, 1), x), -4);
        DUE.holds("y of x^40", w, w.apply(5, y, Make.term(w, 1, 40, 0)), t(1, 40, 0));
        DUE.is("y^2 of x^21", w.apply(5, Make.term(w, 1, 0, 2), Make.term(w, 1, 21, 0)), -4);
        DUE.holds("y^2 of x^20", w, w.apply(5, Make.term(w, 1, 0, 2), Make.term(w, 1, 20, 0)), t(1, 40, 0));
    }

    /** 5: DEGREE 6 in y and above. */
    private static void insteadOfYInY() {
        PolyWork w = Make.field(3);
        int y = w.variable(1);
        int y2 = Make.term(w, 1, 0, 2);
        int y3 = Make.term(w, 1, 0, 3);
        int y4 = Make.term(w, 1, 0, 4);
        int y6 = Make.term(w, 1, 0, 6);
        DUE.holds("y^6 of y", w, w.apply(5, y6, y), t(1, 0, 6));
        DUE.holds("y^3 of y^2", w, w.apply(5, y3, y2), t(1, 0, 6));
        DUE.holds("y^2 of y^3", w, w.apply(5, y2, y3), t(1, 0, 6));
        DUE.is("y^4 of y^2", w.apply(5, y4, y2), -4);
        DUE.is("y^2 of y^4", w.apply(5, y2, y4), -4);
        DUE.is("y^6 of y^6", w.apply(5, y6, y6), -4);
        int top = Make.term(w, 1, 40, 6);
        DUE.is("y of x^40 y^6", w.same(w.apply(5, y, top), top), true);
        DUE.is("x y of x^40 y^6", w.apply(5, Make.term(w, 1, 1, 1), top), -4);
    }

    /** 4, 5 "(b any": 0 and other numbers, and a without the power that goes. */
    private static void insteadOfNumbers() {
        PolyWork w = Make.field(5);
        int zero = w.constant(0);
        int two = w.constant(2);
        int top = Make.term(w, 1, 40, 6);
        int a = Make.whole(w, t(3, 0, 0), t(1, 40, 0), t(4, 0, 6));
        DUE.holds("0 for x", w, w.apply(4, a, zero), t(3, 0, 0), t(4, 0, 6));
        DUE.holds("0 for y", w, w.apply(5, a, zero), t(3, 0, 0), t(1, 40, 0));
        DUE.holds("2 for x: 2^40 is 1", w, w.apply(4, a, two), t(4, 0, 0), t(4, 0, 6));
        DUE.holds("2 for y: 2^6 is 4", w, w.apply(5, a, two), t(4, 0, 0), t(1, 40, 0));
        DUE.row("0 for x in x^40 y^6", w, w.apply(4, top, zero));
        DUE.row("0 for y in x^40 y^6", w, w.apply(5, top, zero));
        DUE.row("in 0 for x", w, w.apply(4, zero, top));
        DUE.row("in 0 for y", w, w.apply(5, zero, top));
        DUE.row("in 2 for x", w, w.apply(4, two, top), 2);
        DUE.row("in 2 for y", w, w.apply(5, two, top), 2);
    }

    /** 4, 5: one without the power that goes is as it was, and sums of powers are not one power. */
    private static void insteadTakesAny() {
        PolyWork w = Make.field(2);
        int y6 = Make.term(w, 1, 0, 6);
        int x40 = Make.term(w, 1, 40, 0);
        int top = Make.term(w, 1, 40, 6);
        DUE.holds("for x in y^6", w, w.apply(4, y6, top), t(1, 0, 6));
        DUE.holds("for y in x^40", w, w.apply(5, x40, top), t(1, 40, 0));
        int line = Make.plain(w, 1, 1);
        DUE.holds("x^40 of x + 1 is (x^8 + 1)^5", w, w.apply(4, x40, line), t(1, 0, 0), t(1, 8, 0), t(1, 32, 0),
            t(1, 40, 0));
    }

    /** 4, 5 "told from the greatest power by times b and plus": sums may stay low where b's powers alone do not. */
    private static void insteadBySums() {
        PolyWork w = Make.field(7);
        int x30 = Make.term(w, 1, 30, 0);
        int a = Make.whole(w, t(1, 0, 2), t(6, 30, 1), t(5, 0, 0));
        DUE.row("(y - x^30) y + 5 of x^30", w, w.apply(5, a, x30), 5);
        DUE.is("(y + x^30) y + 5 of x^30", w.apply(5, Make.whole(w, t(1, 0, 2), t(1, 30, 1), t(5, 0, 0)), x30), -4);
        int b = Make.whole(w, t(1, 0, 2), t(6, 30, 1), t(1, 10, 1), t(5, 0, 0));
        DUE.holds("(y - x^30 + x^10) y + 5 of x^30", w, w.apply(5, b, x30), t(1, 40, 0), t(5, 0, 0));
        int c = Make.whole(w, t(1, 0, 2), t(6, 30, 1), t(1, 11, 1), t(6, 40, 0));
        DUE.is("(y - x^30 + x^11) y - x^40 of x^30", w.apply(5, c, x30), -4);
        int y5 = Make.term(w, 1, 0, 5);
        int d = Make.whole(w, t(1, 2, 0), t(6, 1, 5), t(2, 0, 0));
        DUE.row("(x - y^5) x + 2 of y^5", w, w.apply(4, d, y5), 2);
        DUE.is("(x + y^5) x + 2 of y^5", w.apply(4, Make.whole(w, t(1, 2, 0), t(1, 1, 5), t(2, 0, 0)), y5), -4);
        int e = Make.whole(w, t(1, 2, 0), t(6, 1, 5), t(1, 1, 1), t(2, 0, 0));
        DUE.holds("(x - y^5 + y) x + 2 of y^5", w, w.apply(4, e, y5), t(1, 0, 6), t(2, 0, 0));
        int f = Make.whole(w, t(1, 2, 0), t(6, 1, 5), t(1, 1, 2), t(2, 0, 0));
        DUE.is("(x - y^5 + y^2) x + 2 of y^5", w.apply(4, f, y5), -4);
    }

    /** 6 at its ends: x^40, x, numbers, and powers that p divides. */
    private static void derivativesByX() {
        PolyWork w = Make.field(65521);
        int zero = w.constant(0);
        DUE.holds("of x^40", w, w.apply(6, Make.term(w, 1, 40, 0), 0), t(40, 39, 0));
        DUE.holds("of - x^40", w, w.apply(6, Make.term(w, -1, 40, 0), 0), t(65521 - 40, 39, 0));
        DUE.row("of 7 x", w, w.apply(6, Make.plain(w, 5, 7), 0), 7);
        DUE.row("of 7", w, w.apply(6, w.constant(7), 0));
        DUE.row("of 0", w, w.apply(6, zero, 0));
        DUE.row("of y^6", w, w.apply(6, Make.term(w, 1, 0, 6), 0));
        PolyWork v = Make.field(2);
        DUE.row("of x^40 + x^2 in the field of 2", v, v.apply(6, Make.whole(v, t(1, 40, 0), t(1, 2, 0)), 0));
        DUE.holds("of x^39", v, v.apply(6, Make.term(v, 1, 39, 0), 0), t(1, 38, 0));
        PolyWork u = Make.field(37);
        DUE.holds("of x^38 + x^37 + x^36", u, u.apply(6, Make.whole(u, t(1, 38, 0), t(1, 37, 0), t(1, 36, 0)), 0),
            t(1, 37, 0), t(36, 35, 0));
    }

    /** 7 likewise. */
    private static void derivativesByY() {
        PolyWork w = Make.field(7);
        DUE.holds("of y^6", w, w.apply(7, Make.term(w, 1, 0, 6), 0), t(6, 0, 5));
        DUE.holds("of x^40 y", w, w.apply(7, Make.term(w, 3, 40, 1), 0), t(3, 40, 0));
        DUE.row("of x^40", w, w.apply(7, Make.term(w, 3, 40, 0), 0));
        DUE.row("of 0", w, w.apply(7, w.constant(0), 0));
        PolyWork v = Make.field(5);
        DUE.holds("of y^6 + y^5 + y^4", v, v.apply(7, Make.whole(v, t(1, 0, 6), t(1, 0, 5), t(1, 0, 4)), 0),
            t(1, 0, 5), t(4, 0, 3));
    }

    /** 8, 9 "(DEGREE below b's": of a DEGREE a step below b's, as b's, a step above, and at the ends. */
    private static void divisionDegrees() {
        PolyWork w = Make.field(7);
        int b = Make.plain(w, 1, 0, 3);
        int below = Make.plain(w, 4, 2);
        int level = Make.plain(w, 4, 2, 6);
        int above = Make.plain(w, 4, 2, 6, 3);
        int zero = w.constant(0);
        DUE.row("below: quotient", w, w.apply(8, below, b));
        DUE.row("below: rest", w, w.apply(9, below, b), 4, 2);
        DUE.row("as b's: quotient", w, w.apply(8, level, b), 2);
        DUE.row("as b's: rest", w, w.apply(9, level, b), 2, 2);
        DUE.row("above: quotient", w, w.apply(8, above, b), 2, 1);
        DUE.row("above: rest", w, w.apply(9, above, b), 2, 1);
        DUE.row("of 0: quotient", w, w.apply(8, zero, b));
        DUE.row("of 0: rest", w, w.apply(9, zero, b));
        DUE.row("by itself: quotient", w, w.apply(8, b, b), 1);
        DUE.row("by itself: rest", w, w.apply(9, b, b));
        int x40 = Make.term(w, 1, 40, 0);
        int x39 = Make.whole(w, t(1, 39, 0), t(1, 0, 0));
        DUE.row("x^40 by x^39 + 1: quotient", w, w.apply(8, x40, x39), 0, 1);
        DUE.row("x^40 by x^39 + 1: rest", w, w.apply(9, x40, x39), 0, 6);
        DUE.holds("x^40 by x: quotient", w, w.apply(8, x40, w.variable(0)), t(1, 39, 0));
        DUE.row("x^40 by x - 1: rest", w, w.apply(9, x40, Make.plain(w, 6, 1)), 1);
    }

    /** "b 0: -3 of both". */
    private static void divisionByZero() {
        PolyWork w = Make.field(7);
        int zero = w.constant(0);
        for (int a : new int[] {zero, w.constant(1), w.variable(0), Make.term(w, 1, 40, 0)}) {
            DUE.is("quotient by 0", w.apply(8, a, zero), -3);
            DUE.is("rest by 0", w.apply(9, a, zero), -3);
        }
    }

    /** b of DEGREE 0 is not 0: no rest is of a DEGREE below it but 0. */
    private static void divisionByNumbers() {
        for (int p : FIELDS) {
            PolyWork w = Make.field(p);
            int last = w.constant(-1);
            int a = Make.plain(w, 1, 0, 1);
            DUE.row("quotient", w, w.apply(8, a, last), p - 1, 0, p - 1);
            DUE.row("rest", w, w.apply(9, a, last));
            DUE.row("0 by a number: quotient", w, w.apply(8, w.constant(0), last));
            DUE.row("0 by a number: rest", w, w.apply(9, w.constant(0), last));
            DUE.row("a number by a number", w, w.apply(8, last, last), 1);
        }
    }

    /** 10 "(of 0 and 0: 0)", and of 0 and another: that one, MONIC. */
    private static void divisorsOfZero() {
        PolyWork w = Make.field(7);
        int zero = w.constant(0);
        int a = Make.plain(w, 1, 0, 3);
        DUE.row("of 0 and 0", w, w.apply(10, zero, zero));
        DUE.row("of a and 0", w, w.apply(10, a, zero), 5, 0, 1);
        DUE.row("of 0 and a", w, w.apply(10, zero, a), 5, 0, 1);
        DUE.row("of 0 and 3", w, w.apply(10, zero, w.constant(3)), 1);
        DUE.row("of 3 and 0", w, w.apply(10, w.constant(3), zero), 1);
        DUE.holds("of 0 and 2 x^40", w, w.apply(10, zero, Make.term(w, 2, 40, 0)), t(1, 40, 0));
    }

    /** "MONIC: the number at its greatest power of x is 1". */
    private static void divisorsAreMonic() {
        for (int p : FIELDS) {
            PolyWork w = Make.field(p);
            int a = Make.plain(w, -1, -1);
            int b = Make.plain(w, 0, -1, -1);
            DUE.row("of - x - 1 and - x^2 - x", w, w.apply(10, a, b), 1, 1);
            DUE.row("of a and a", w, w.apply(10, b, b), 0, 1, 1);
            DUE.row("without a common divisor", w, w.apply(10, a, w.variable(0)), 1);
            DUE.row("of numbers", w, w.apply(10, w.constant(-1), w.constant(-1)), 1);
        }
    }

    /** 11 "(b of DEGREE 0 or 0 ..: -3)", and DEGREE 1 is enough. */
    private static void inverseModuli() {
        PolyWork w = Make.field(7);
        int[] all = {w.constant(0), w.constant(1), w.constant(3), w.variable(0), Make.plain(w, 1, 2, 3)};
        for (int a : all) {
            DUE.is("modulo 0", w.apply(11, a, 0), -3);
            DUE.is("modulo 1", w.apply(11, a, 1), -3);
            DUE.is("modulo 3", w.apply(11, a, 2), -3);
        }
        int line = Make.plain(w, 2, 3);
        DUE.row("3 modulo 3 x + 2", w, w.apply(11, 2, line), 5);
        DUE.row("x modulo 3 x + 2: x is 4", w, w.apply(11, 3, line), 2);
    }

    /** 11 "(.. or a common divisor of DEGREE above 0: -3)", and one of DEGREE 0 is none. */
    private static void inverseCommon() {
        PolyWork w = Make.field(7);
        int b = Make.plain(w, 6, 0, 1);
        DUE.is("0", w.apply(11, w.constant(0), b), -3);
        DUE.is("b", w.apply(11, b, b), -3);
        DUE.is("x - 1", w.apply(11, Make.plain(w, 6, 1), b), -3);
        DUE.is("2 (x + 1)", w.apply(11, Make.plain(w, 2, 2), b), -3);
        DUE.is("x b", w.apply(11, Make.plain(w, 0, 6, 0, 1), b), -3);
        DUE.row("x", w, w.apply(11, w.variable(0), b), 0, 1);
        DUE.row("3", w, w.apply(11, w.constant(3), b), 5);
        PolyWork v = Make.field(2);
        DUE.row("x modulo x + 1 in the field of 2", v, v.apply(11, v.variable(0), Make.plain(v, 1, 1)), 1);
        DUE.is("x + 1 modulo x^2 + 1", v.apply(11, Make.plain(v, 1, 1), Make.plain(v, 1, 0, 1)), -3);
    }

    /** 11 "the one of DEGREE below b's": of a of a lesser, the same and a greater DEGREE. */
    private static void inverseDegrees() {
        PolyWork w = Make.field(7);
        int b = Make.plain(w, 1, 0, 2);
        DUE.row("x: its square is 3", w, w.apply(11, w.variable(0), b), 0, 5);
        DUE.row("2 x^2 + x + 1 is x", w, w.apply(11, Make.plain(w, 1, 1, 2), b), 0, 5);
        DUE.row("x^3 is 3 x", w, w.apply(11, Make.term(w, 1, 3, 0), b), 0, 4);
        DUE.row("x^40 is 3^20, which is 2", w, w.apply(11, Make.term(w, 1, 40, 0), b), 4);
        int high = Make.whole(w, t(1, 40, 0), t(1, 0, 0));
        DUE.holds("x modulo x^40 + 1", w, w.apply(11, w.variable(0), high), t(6, 39, 0));
    }

    /** 12 "both with DEGREE in y 1 or more .. (else -2)". */
    private static void resultantByYDegreesInY() {
        PolyWork w = Make.field(7);
        int y = w.variable(1);
        int y6 = Make.whole(w, t(1, 0, 6), t(3, 0, 0));
        int[] low = {w.constant(0), w.constant(1), w.variable(0), Make.term(w, 1, 6, 0)};
        for (int a : low) {
            DUE.is("a of DEGREE below 1", w.apply(12, a, y), -2);
            DUE.is("b of DEGREE below 1", w.apply(12, y, a), -2);
            DUE.is("a of DEGREE below 1", w.apply(12, a, y6), -2);
            DUE.is("both of DEGREE below 1", w.apply(12, a, a), -2);
        }
        DUE.row("y, y: 0", w, w.apply(12, y, y));
        DUE.row("y, y^6 + 3", w, w.apply(12, y, y6), 3);
        DUE.row("y^6 + 3, y", w, w.apply(12, y6, y), 3);
        DUE.row("y^6 + 3 and itself", w, w.apply(12, y6, y6));
    }

    /** 12 "both with DEGREE .. in x 6 at most (else -2)". */
    private static void resultantByYDegreesInX() {
        PolyWork w = Make.field(7);
        int y = w.variable(1);
        int a5 = Make.whole(w, t(1, 0, 1), t(3, 5, 0));
        int a6 = Make.whole(w, t(1, 0, 1), t(3, 6, 0));
        int a7 = Make.whole(w, t(1, 0, 1), t(3, 7, 0));
        int a40 = Make.whole(w, t(1, 0, 1), t(3, 40, 0));
        int b7 = Make.term(w, 1, 7, 1);
        DUE.holds("x^5", w, w.apply(12, y, a5), t(3, 5, 0));
        DUE.holds("x^6 of b", w, w.apply(12, y, a6), t(3, 6, 0));
        DUE.holds("x^6 of a", w, w.apply(12, a6, y), t(4, 6, 0));
        DUE.row("x^6 of both", w, w.apply(12, a6, a6));
        for (int a : new int[] {a7, a40, b7}) {
            DUE.is("x^7 or more of a", w.apply(12, a, y), -2);
            DUE.is("x^7 or more of b", w.apply(12, y, a), -2);
            DUE.is("x^7 or more of both", w.apply(12, a, a), -2);
        }
    }

    /** 12 and "-4 the answer has DEGREES above 40": y - x^6 and b make b with x^6 for y. */
    private static void resultantByYTooHigh() {
        PolyWork w = Make.field(7);
        int a = Make.whole(w, t(1, 0, 1), t(6, 6, 0));
        DUE.holds("DEGREE 39", w, w.apply(12, a, Make.term(w, 1, 3, 6)), t(1, 39, 0));
        DUE.holds("DEGREE 40", w, w.apply(12, a, Make.term(w, 1, 4, 6)), t(1, 40, 0));
        DUE.is("DEGREE 41", w.apply(12, a, Make.term(w, 1, 5, 6)), -4);
        DUE.is("DEGREE 42", w.apply(12, a, Make.term(w, 1, 6, 6)), -4);
        DUE.is("DEGREE 41, the other way", w.apply(12, Make.term(w, 1, 5, 6), a), -4);
        int high = Make.whole(w, t(1, 6, 6), t(1, 0, 0));
        DUE.is("DEGREE 72", w.apply(12, high, Make.whole(w, t(1, 0, 6), t(1, 6, 0))), -4);
        DUE.row("0 of the greatest rows", w, w.apply(12, high, high));
        // Twelve rows of DEGREE 6 each, but the answer's DEGREE alone counts.
        int near = Make.whole(w, t(1, 6, 6), t(2, 0, 0));
        DUE.holds("x^36, where rows would have x^72", w, w.apply(12, high, near), t(1, 36, 0));
    }

    /** 12 "n rows of a's .., then m rows of b's": a change of a and b turns the sign if m n is odd. */
    private static void resultantByYRows() {
        PolyWork w = Make.field(65521);
        int a = Make.whole(w, t(2, 1, 1), t(3, 0, 0));
        int b = Make.whole(w, t(5, 0, 1), t(7, 2, 0));
        DUE.holds("2 x y + 3, 5 y + 7 x^2: 14 x^3 - 15", w, w.apply(12, a, b), t(14, 3, 0), t(65521 - 15, 0, 0));
        DUE.holds("the other way", w, w.apply(12, b, a), t(65521 - 14, 3, 0), t(15, 0, 0));
        int c = Make.whole(w, t(1, 0, 2), t(1, 1, 0));
        DUE.holds("5 y + 7 x^2, y^2 + x: 49 x^4 + 25 x", w, w.apply(12, b, c), t(49, 4, 0), t(25, 1, 0));
        DUE.holds("the other way", w, w.apply(12, c, b), t(49, 4, 0), t(25, 1, 0));
    }

    /** 12 of those without x: a number, in every field. */
    private static void resultantByYOfNumbers() {
        for (int p : FIELDS) {
            PolyWork w = Make.field(p);
            int a = Make.whole(w, t(1, 0, 1), t(1, 0, 0));
            int b = Make.whole(w, t(1, 0, 6), t(p - 1, 0, 1), t(1, 0, 0));
            DUE.row("b at -1: 3", w, w.apply(12, a, b), modulo(3, p));
            DUE.row("the other way", w, w.apply(12, b, a), modulo(3, p));
        }
    }

    /** 13 "(a, b of DEGREE 0 or more, else -3: of 0". */
    private static void resultantByXOfZero() {
        PolyWork w = Make.field(7);
        int zero = w.constant(0);
        for (int a : new int[] {zero, w.constant(1), w.variable(0), Make.term(w, 1, 40, 0)}) {
            DUE.is("of 0 and one", w.apply(13, zero, a), -3);
            DUE.is("of one and 0", w.apply(13, a, zero), -3);
        }
    }

    /** 13 "of DEGREE 0 both: 1)", and of DEGREE 0 one alone: its power. */
    private static void resultantByXOfNumbers() {
        for (int p : FIELDS) {
            PolyWork w = Make.field(p);
            int last = w.constant(-1);
            int one = w.constant(1);
            DUE.row("p - 1, p - 1", w, w.apply(13, last, last), 1);
            DUE.row("1, p - 1", w, w.apply(13, one, last), 1);
            DUE.row("p - 1, x", w, w.apply(13, last, w.variable(0)), p - 1);
            DUE.row("x, p - 1", w, w.apply(13, w.variable(0), last), p - 1);
            DUE.row("p - 1, x^2", w, w.apply(13, last, Make.term(w, 1, 2, 0)), 1);
        }
        PolyWork w = Make.field(65521);
        int two = w.constant(2);
        int x40 = Make.term(w, 1, 40, 0);
        long due = BigInteger.TWO.pow(40).mod(BigInteger.valueOf(65521)).longValue();
        DUE.row("2, x^40", w, w.apply(13, two, x40), due);
        DUE.row("x^40, 2", w, w.apply(13, x40, two), due);
        DUE.row("2, 3", w, w.apply(13, two, w.constant(3)), 1);
    }

    /** 13 "likewise": rows of a's first, so that x - 2 and b make b at 2. */
    private static void resultantByXRows() {
        PolyWork w = Make.field(101);
        int a = Make.plain(w, -2, 1);
        DUE.row("x - 2, x - 5", w, w.apply(13, a, Make.plain(w, -5, 1)), 98);
        DUE.row("x - 5, x - 2", w, w.apply(13, Make.plain(w, -5, 1), a), 3);
        DUE.row("x - 2, 3 x^2 + 1", w, w.apply(13, a, Make.plain(w, 1, 0, 3)), 13);
        DUE.row("3 x^2 + 1, x - 2", w, w.apply(13, Make.plain(w, 1, 0, 3), a), 13);
        DUE.row("a common root", w, w.apply(13, a, Make.plain(w, 4, -4, 1)));
        int x40 = Make.term(w, 1, 40, 0);
        int next = Make.whole(w, t(1, 40, 0), t(1, 0, 0));
        DUE.row("x^40, x^40 + 1", w, w.apply(13, x40, next), 1);
        DUE.row("x^40, x^40", w, w.apply(13, x40, x40));
        DUE.is("it is PLAIN", w.degree(w.apply(13, x40, next), 1), 0);
    }

    /** "n 0 or more (else -2)". */
    private static void powerExponents() {
        PolyWork w = Make.field(7);
        int x = w.variable(0);
        int m = Make.plain(w, 4, 0, 1);
        for (long n : new long[] {-1, -2, -(1L << 32), Long.MIN_VALUE + 1, Long.MIN_VALUE}) {
            DUE.is("n " + n, w.power(x, n, m), -2);
        }
        // x^2 is 3, whose order is 6.
        DUE.row("n 0", w, w.power(x, 0, m), 1);
        DUE.row("n 1", w, w.power(x, 1, m), 0, 1);
        DUE.row("n 2", w, w.power(x, 2, m), 3);
        DUE.row("n 3", w, w.power(x, 3, m), 0, 3);
        DUE.row("n 12", w, w.power(x, 12, m), 1);
        DUE.row("2^32 is 4 modulo 12", w, w.power(x, 1L << 32, m), 2);
        DUE.row("2^62 is 4 modulo 12", w, w.power(x, 1L << 62, m), 2);
        DUE.row("2^63 - 1 is 7 modulo 12", w, w.power(x, Long.MAX_VALUE, m), 0, 6);
        DUE.row("2^63 - 2 is 6 modulo 12", w, w.power(x, Long.MAX_VALUE - 1, m), 6);
    }

    /** "a^0 is 1": of 0 and of multiples of m too. */
    private static void powerOfZero() {
        for (int p : FIELDS) {
            PolyWork w = Make.field(p);
            int zero = w.constant(0);
            int m = Make.plain(w, 1, 1, -1);
            DUE.row("0^0", w, w.power(zero, 0, m), 1);
            DUE.row("0^1", w, w.power(zero, 1, m));
            DUE.row("0^(2^63 - 1)", w, w.power(zero, Long.MAX_VALUE, m));
            DUE.row("m^0", w, w.power(m, 0, m), 1);
            DUE.row("m^1", w, w.power(m, 1, m));
            DUE.row("(x^40)^0", w, w.power(Make.term(w, 1, 40, 0), 0, m), 1);
            DUE.row("1^(2^63 - 1)", w, w.power(w.constant(1), Long.MAX_VALUE, m), 1);
            DUE.row("(p - 1)^(2^63 - 1)", w, w.power(w.constant(-1), Long.MAX_VALUE, m), p - 1);
        }
    }

    /** "m of DEGREE 1 or more (else -3)". */
    private static void powerModuli() {
        PolyWork w = Make.field(7);
        int x = w.variable(0);
        int zero = w.constant(0);
        int one = w.constant(1);
        for (long n : new long[] {0, 1, 2, Long.MAX_VALUE}) {
            for (int a : new int[] {x, zero, one}) {
                DUE.is("m 0", w.power(a, n, zero), -3);
                DUE.is("m 1", w.power(a, n, one), -3);
            }
        }
        int line = Make.plain(w, 1, 2);
        DUE.row("m 2 x + 1: x is 3", w, w.power(x, 5, line), 5);
        DUE.row("m 2 x + 1, n 0", w, w.power(x, 0, line), 1);
        int high = Make.whole(w, t(3, 40, 0), t(1, 0, 0));
        DUE.holds("x^39 by 3 x^40 + 1", w, w.power(x, 39, high), t(1, 39, 0));
        DUE.row("x^40 by 3 x^40 + 1", w, w.power(x, 40, high), 2);
        DUE.row("x^41 by 3 x^40 + 1", w, w.power(x, 41, high), 0, 2);
    }

    /** "a and m PLAIN", and their PLACES. */
    private static void powerPlain() {
        PolyWork w = Make.field(7);
        int x = w.variable(0);
        int y = w.variable(1);
        int mixed = Make.whole(w, t(1, 3, 0), t(1, 0, 6));
        for (long n : new long[] {0, 1, Long.MAX_VALUE}) {
            DUE.is("a y", w.power(y, n, x), -2);
            DUE.is("m y", w.power(x, n, y), -2);
            DUE.is("a with y", w.power(mixed, n, x), -2);
            DUE.is("m with y", w.power(x, n, mixed), -2);
        }
        for (int off : OFF) {
            DUE.is("a " + off, w.power(off, 1, x), -1);
            DUE.is("m " + off, w.power(x, 1, off), -1);
            DUE.is("both " + off, w.power(off, 1, off), -1);
        }
    }
}
