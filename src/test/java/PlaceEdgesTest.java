import java.math.BigInteger;
import java.util.function.ToIntFunction;

/**
 * The boundary cases that the document names of the field, the PLACES, the order of refusals, and in promises 1 to 4,
 * 6 and 8 to 12. A method for each sentence, which stands above it; answers are worked out by hand.
 */
public final class PlaceEdgesTest {
    private static final Due DUE = new Due("PlaceEdgesTest");
    private static final int LEAST = Make.LEAST;
    private static final int MOST = Make.MOST;
    private static final long[] ANY = {0, 1, -1, 2, -2, 1L << 31, -(1L << 31), (1L << 31) - 1, 1L << 32, (1L << 32) - 1,
        -(1L << 32), 1L << 62, Long.MAX_VALUE, Long.MAX_VALUE - 1, Long.MIN_VALUE, Long.MIN_VALUE + 1};
    private static final int[] FIELDS = {2, 3, 5, 257, 65519, 65521};

    public static void main(String[] args) {
        newField();
        newPlaces();
        newPoints();
        newTold();
        primesFromTwo();
        primesToTheGreatest();
        primesAreNoProducts();
        primeForgets();
        primeForgetsInTheSameField();
        primeRefused();
        constantAny();
        constantInNumbers();
        variableWhich();
        plusPowersOfX();
        plusPowersOfY();
        plusOffBoth();
        plusNumber();
        plusNew();
        atPlaces();
        atPowers();
        degreeWhich();
        degreeOfZero();
        degreePlaces();
        degreesApart();
        valueModulo();
        valuePlaces();
        sameAlike();
        samePlaces();
        dropPlaces();
        dropFrees();
        placesToTheLast();
        leastFree();
        firstRefusalOfApply();
        firstRefusalOfOthers();
        firstRefusalWhenFull();
        plainOnes();
        lastCall();
        DUE.end();
    }

    private static long modulo(long n, long p) {
        return BigInteger.valueOf(n).mod(BigInteger.valueOf(p)).longValue();
    }

    /** "p is 2". */
    private static void newField() {
        PolyWork w = new PolyWork();
        DUE.row("1", w, w.constant(1), 1);
        DUE.row("2 is 0", w, w.constant(2));
        DUE.row("3 is 1", w, w.constant(3), 1);
        DUE.row("-1 is 1", w, w.constant(-1), 1);
        DUE.is("x 0", w.point(0, 1), 1);
        DUE.is("x 1", w.point(1, 1), 2);
        DUE.is("x 2 is x 0", w.point(2, 1), -1);
    }

    /** "no POLYNOMIALS". */
    private static void newPlaces() {
        for (int a : new int[] {LEAST, -1, 0, 1, 98, 99, 100, MOST}) {
            PolyWork w = new PolyWork();
            DUE.is("at", w.at(a, 0, 0), -1);
            DUE.is("degree", w.degree(a, 0), -2);
            DUE.is("value", w.value(a, 0, 0), -1);
            DUE.is("same", w.same(a, a), false);
            DUE.is("drop", w.drop(a), false);
            DUE.is("plus", w.plus(a, 1, 0, 0), -1);
            DUE.is("power", w.power(a, 1, a), -1);
            DUE.is("factor", w.factor(a), -1);
            for (int act = 0; act <= 13; act++) {
                DUE.is("apply", w.apply(act, a, a), -1);
            }
            DUE.is("the first one's PLACE", w.constant(1), 0);
        }
    }

    /** "no points". */
    private static void newPoints() {
        PolyWork w = new PolyWork();
        DUE.row("without points", w, w.interpolate());
        DUE.is("the first point", new PolyWork().point(0, 0), 1);
    }

    /** Of a new object no factor() was. */
    private static void newTold() {
        PolyWork w = new PolyWork();
        for (int k : new int[] {LEAST, -1, 0, 1, 2, 3, 4, MOST}) {
            DUE.is("told", w.told(k), -1);
            DUE.is("root", w.root(k), -1);
            DUE.is("take", w.take(k), -1);
            for (int what : new int[] {-1, 0, 1, 2, 40, 42, 43}) {
                DUE.is("factorOf", w.factorOf(k, what), -1);
                DUE.is("factorAt", w.factorAt(k, what), -1);
                DUE.is("part", w.part(k, what), -1);
            }
        }
    }

    private static void isField(int p, boolean due) {
        PolyWork w = new PolyWork();
        DUE.is("prime " + p, w.prime(p), due);
        DUE.row("its p - 1", w, w.constant(-1), due ? p - 1 : 1);
    }

    /** "2 ..", from below. */
    private static void primesFromTwo() {
        for (int p : new int[] {LEAST, LEAST + 1, LEAST + 2, LEAST + 3, -65521, -7, -3, -2, -1, 0, 1}) {
            isField(p, false);
        }
        isField(2, true);
        isField(3, true);
        isField(4, false);
        isField(5, true);
    }

    /** ".. 65521": primes above it are refused too. */
    private static void primesToTheGreatest() {
        isField(65519, true);
        isField(65520, false);
        isField(65521, true);
        for (int p : new int[] {65522, 65523, 65537, 65539, 131071, 65521 + 65536, 1 << 30, MOST - 1, MOST}) {
            isField(p, false);
        }
    }

    /** "False: no PRIME": squares and products of two of nearly a length are the last that a search meets. */
    private static void primesAreNoProducts() {
        for (int p : new int[] {4, 6, 9, 15, 25, 49, 121, 251 * 251, 241 * 251, 251 * 257, 3 * 21839, 2 * 32749}) {
            isField(p, false);
        }
        for (int p : new int[] {7, 11, 13, 127, 241, 251, 257, 32749, 65497}) {
            isField(p, true);
        }
    }

    private static PolyWork busy() {
        PolyWork w = Make.field(7);
        w.variable(0);
        w.plus(0, 6, 2, 0);
        w.factor(1);
        w.point(1, 2);
        w.point(2, 3);
        return w;
    }

    private static void hasForgotten(PolyWork w, int p) {
        for (int a = 0; a < 100; a++) {
            DUE.is("no POLYNOMIALS any more", w.degree(a, 0), -2);
        }
        for (int what = 0; what <= 3; what++) {
            DUE.is("nothing told any more: told", w.told(what), -1);
        }
        DUE.is("nothing told any more: factorOf", w.factorOf(0, 0), -1);
        DUE.is("nothing told any more: factorAt", w.factorAt(0, 0), -1);
        DUE.is("nothing told any more: take", w.take(0), -1);
        DUE.is("nothing told any more: part", w.part(0, 0), -1);
        DUE.is("nothing told any more: root", w.root(0), -1);
        DUE.is("no points any more", w.point(1, 1), 1);
        DUE.is("no points any more", w.interpolate(), 0);
        DUE.row("of the one new point", w, 0, 1);
        DUE.row("the field", w, w.constant(-1), p - 1);
    }

    /** "Another field: no POLYNOMIALS, no points any more", and FACTORS "stay told till .. prime()". */
    private static void primeForgets() {
        PolyWork w = busy();
        DUE.is("told ahead", w.told(3), 2);
        DUE.is("prime", w.prime(11), true);
        hasForgotten(w, 11);
    }

    /** The same, of the p that the field has already. */
    private static void primeForgetsInTheSameField() {
        PolyWork w = busy();
        DUE.is("prime", w.prime(7), true);
        hasForgotten(w, 7);
    }

    /** "What is refused changes nothing", of prime(): the field, POLYNOMIALS, points and FACTORS stay. */
    private static void primeRefused() {
        for (int p : new int[] {LEAST, -7, 0, 1, 4, 65520, 65522, 65537, MOST}) {
            PolyWork w = busy();
            DUE.is("prime " + p, w.prime(p), false);
            DUE.row("x", w, 0, 0, 1);
            DUE.row("6 x^2 + x", w, 1, 0, 1, 6);
            DUE.is("told", w.told(0), 6);
            DUE.is("root", w.root(1), 1);
            DUE.is("points", w.point(3, 4), 3);
            DUE.row("x + 1", w, w.interpolate(), 1, 1);
            DUE.row("the field", w, w.constant(-1), 6);
        }
    }

    /** "modulo p, c any". */
    private static void constantAny() {
        for (int p : FIELDS) {
            PolyWork w = Make.field(p);
            for (int k = 0; k < ANY.length; k++) {
                DUE.is("constant " + ANY[k], w.constant(ANY[k]), k);
                DUE.row("constant " + ANY[k], w, k, modulo(ANY[k], p));
            }
        }
    }

    /** The same about the multiples of p. */
    private static void constantInNumbers() {
        for (int p : FIELDS) {
            PolyWork w = Make.field(p);
            DUE.row("p - 1", w, w.constant(p - 1), p - 1);
            DUE.row("p", w, w.constant(p));
            DUE.row("p + 1", w, w.constant(p + 1), 1);
            DUE.row("-p + 1", w, w.constant(1 - p), 1);
            DUE.row("-p", w, w.constant(-p));
            DUE.row("-p - 1", w, w.constant(-p - 1), p - 1);
            long far = Long.MAX_VALUE / p * p;
            DUE.row("the greatest multiple", w, w.constant(far));
            DUE.row("a step below", w, w.constant(far - 1), p - 1);
            DUE.row("the least multiple", w, w.constant(-far));
            DUE.row("a step above", w, w.constant(1 - far), 1);
        }
    }

    /** "x (which 0), y (1) .. -2: another". */
    private static void variableWhich() {
        for (int p : FIELDS) {
            PolyWork w = Make.field(p);
            for (int which : new int[] {LEAST, -2, -1, 2, 3, 41, MOST}) {
                DUE.is("variable " + which, w.variable(which), -2);
            }
            DUE.is("x", w.variable(0), 0);
            DUE.is("y", w.variable(1), 1);
            DUE.holds("x", w, 0, new long[] {1, 1, 0});
            DUE.holds("y", w, 1, new long[] {1, 0, 1});
        }
    }

    /** "i 0 .. 40" and "-4: i, j". */
    private static void plusPowersOfX() {
        PolyWork w = Make.field(11);
        w.constant(4);
        for (int i : new int[] {LEAST, -41, -1, 41, 42, 82, MOST}) {
            for (int j = 0; j <= 6; j++) {
                DUE.is("plus x^" + i, w.plus(0, 3, i, j), -4);
                DUE.is("plus 0 x^" + i, w.plus(0, 0, i, j), -4);
            }
        }
        DUE.holds("plus x^0", w, w.plus(0, 3, 0, 0), new long[] {7, 0, 0});
        DUE.holds("plus x^1", w, w.plus(0, 3, 1, 0), new long[] {4, 0, 0}, new long[] {3, 1, 0});
        DUE.holds("plus x^39", w, w.plus(0, 3, 39, 0), new long[] {4, 0, 0}, new long[] {3, 39, 0});
        DUE.holds("plus x^40", w, w.plus(0, 3, 40, 0), new long[] {4, 0, 0}, new long[] {3, 40, 0});
    }

    /** "j 0 .. 6" and "-4: i, j". */
    private static void plusPowersOfY() {
        PolyWork w = Make.field(11);
        w.constant(4);
        for (int j : new int[] {LEAST, -1, 7, 8, MOST}) {
            for (int i : new int[] {0, 1, 39, 40}) {
                DUE.is("plus y^" + j, w.plus(0, 3, i, j), -4);
                DUE.is("plus 0 y^" + j, w.plus(0, 0, i, j), -4);
            }
        }
        DUE.holds("plus y^1", w, w.plus(0, 3, 0, 1), new long[] {4, 0, 0}, new long[] {3, 0, 1});
        DUE.holds("plus y^5", w, w.plus(0, 3, 0, 5), new long[] {4, 0, 0}, new long[] {3, 0, 5});
        DUE.holds("plus y^6", w, w.plus(0, 3, 0, 6), new long[] {4, 0, 0}, new long[] {3, 0, 6});
    }

    /** Both off at once, and both at their ends. */
    private static void plusOffBoth() {
        PolyWork w = Make.field(11);
        w.constant(4);
        for (int i : new int[] {LEAST, -1, 41, MOST}) {
            for (int j : new int[] {LEAST, -1, 7, MOST}) {
                DUE.is("plus x^" + i + " y^" + j, w.plus(0, 3, i, j), -4);
            }
        }
        DUE.holds("plus x^40 y^6", w, w.plus(0, 3, 40, 6), new long[] {4, 0, 0}, new long[] {3, 40, 6});
    }

    /** "c modulo p", and the sum too. */
    private static void plusNumber() {
        for (int p : FIELDS) {
            PolyWork w = Make.field(p);
            w.constant(-1);
            DUE.row("p - 1 and 0", w, w.plus(0, 0, 0, 0), p - 1);
            DUE.row("p - 1 and 1", w, w.plus(0, 1, 0, 0));
            DUE.row("p - 1 and 2", w, w.plus(0, 2, 0, 0), 1);
            DUE.row("p - 1 and p - 1", w, w.plus(0, p - 1, 0, 0), p - 2);
            DUE.row("p - 1 and -1", w, w.plus(0, -1, 0, 0), p - 2);
            DUE.row("p - 1 and p", w, w.plus(0, p, 0, 0), p - 1);
            for (long c : ANY) {
                long due = BigInteger.valueOf(c).add(BigInteger.valueOf(p - 1)).mod(BigInteger.valueOf(p)).longValue();
                DUE.row("p - 1 and " + c, w, w.plus(0, c, 0, 0), due);
                DUE.holds("at x^2 y " + c, w, w.plus(0, c, 2, 1), new long[] {p - 1, 0, 0},
                    new long[] {modulo(c, p), 2, 1});
            }
        }
    }

    /** "a new one": the one that it comes from stays. */
    private static void plusNew() {
        PolyWork w = Make.field(11);
        w.constant(4);
        DUE.is("plus", w.plus(0, 5, 0, 0), 1);
        DUE.is("plus 0", w.plus(0, 0, 0, 0), 2);
        DUE.row("the old one", w, 0, 4);
        DUE.row("the new one", w, 1, 9);
        DUE.row("a like one", w, 2, 4);
        for (int a : new int[] {LEAST, -1, 3, 99, 100, MOST}) {
            DUE.is("no PLACE " + a, w.plus(a, 1, 0, 0), -1);
        }
    }

    /** "NONE: no such PLACE" of at(). */
    private static void atPlaces() {
        PolyWork w = Make.field(13);
        w.constant(5);
        w.constant(6);
        w.constant(7);
        w.drop(1);
        DUE.is("PLACE 0", w.at(0, 0, 0), 5);
        DUE.is("PLACE 2", w.at(2, 0, 0), 7);
        for (int a : new int[] {LEAST, -1, 1, 3, 99, 100, MOST}) {
            DUE.is("PLACE " + a, w.at(a, 0, 0), -1);
        }
    }

    /** "NONE: .. i, j" of at(). */
    private static void atPowers() {
        PolyWork w = Make.field(13);
        int a = Make.whole(w, new long[] {1, 0, 0}, new long[] {2, 40, 0}, new long[] {3, 0, 6}, new long[] {4, 40, 6});
        DUE.is("x^0 y^0", w.at(a, 0, 0), 1);
        DUE.is("x^40 y^0", w.at(a, 40, 0), 2);
        DUE.is("x^0 y^6", w.at(a, 0, 6), 3);
        DUE.is("x^40 y^6", w.at(a, 40, 6), 4);
        DUE.is("x^39 y^5", w.at(a, 39, 5), 0);
        for (int i : new int[] {LEAST, -41, -1, 41, 42, MOST}) {
            for (int j : new int[] {LEAST, -1, 0, 1, 5, 6, 7, MOST}) {
                DUE.is("x^" + i + " y^" + j, w.at(a, i, j), -1);
            }
        }
        for (int j : new int[] {LEAST, -1, 7, 8, MOST}) {
            for (int i : new int[] {0, 1, 39, 40}) {
                DUE.is("x^" + i + " y^" + j, w.at(a, i, j), -1);
            }
        }
    }

    /** "in x (which 0), y (1) .. -2: .. another which". */
    private static void degreeWhich() {
        PolyWork w = Make.field(5);
        int a = Make.term(w, 1, 40, 6);
        int b = Make.term(w, 1, 3, 2);
        DUE.is("40", w.degree(a, 0), 40);
        DUE.is("6", w.degree(a, 1), 6);
        DUE.is("3", w.degree(b, 0), 3);
        DUE.is("2", w.degree(b, 1), 2);
        for (int which : new int[] {LEAST, -1, 2, 3, MOST}) {
            DUE.is("which " + which, w.degree(a, which), -2);
            DUE.is("which " + which + " of 0", w.degree(w.constant(0), which), -2);
        }
    }

    /** "NONE of 0", and 0 of a number. */
    private static void degreeOfZero() {
        PolyWork w = Make.field(5);
        w.constant(0);
        w.constant(1);
        w.constant(5);
        w.apply(1, 1, 1);
        for (int which = 0; which <= 1; which++) {
            DUE.is("of 0", w.degree(0, which), -1);
            DUE.is("of 1", w.degree(1, which), 0);
            DUE.is("of 5", w.degree(2, which), -1);
            DUE.is("of 1 - 1", w.degree(3, which), -1);
        }
    }

    /** "-2: no such PLACE". */
    private static void degreePlaces() {
        PolyWork w = Make.field(5);
        w.constant(0);
        w.constant(1);
        w.drop(0);
        for (int a : new int[] {LEAST, -1, 0, 2, 99, 100, MOST}) {
            for (int which : new int[] {-1, 0, 1, 2}) {
                DUE.is("of PLACE " + a, w.degree(a, which), -2);
            }
        }
    }

    /** "the greatest i, j of those that are not 0": the two need not come from the same number. */
    private static void degreesApart() {
        PolyWork w = Make.field(2);
        int a = Make.whole(w, new long[] {1, 40, 0}, new long[] {1, 0, 6});
        DUE.is("x", w.degree(a, 0), 40);
        DUE.is("y", w.degree(a, 1), 6);
        int b = w.plus(a, 1, 40, 0);
        DUE.is("without x^40", w.degree(b, 0), 0);
        DUE.is("without x^40", w.degree(b, 1), 6);
        int c = w.plus(a, 1, 0, 6);
        DUE.is("without y^6", w.degree(c, 0), 40);
        DUE.is("without y^6", w.degree(c, 1), 0);
    }

    /** "at x, y (modulo p)". */
    private static void valueModulo() {
        for (int p : FIELDS) {
            PolyWork w = Make.field(p);
            int a = Make.whole(w, new long[] {1, 3, 0}, new long[] {1, 1, 2}, new long[] {p - 1, 0, 0});
            int zero = w.constant(0);
            BigInteger big = BigInteger.valueOf(p);
            for (int k = 0; k < ANY.length; k++) {
                BigInteger x = BigInteger.valueOf(ANY[k]);
                BigInteger y = BigInteger.valueOf(ANY[ANY.length - 1 - k]);
                BigInteger due = x.pow(3).add(x.multiply(y.pow(2))).subtract(BigInteger.ONE).mod(big);
                DUE.is("at " + x + " " + y, w.value(a, ANY[k], ANY[ANY.length - 1 - k]), due.longValue());
                DUE.is("of 0", w.value(zero, ANY[k], ANY[k]), 0);
            }
            DUE.is("at p, p", w.value(a, p, p), p - 1);
            DUE.is("at p - 1, p + 1", w.value(a, p - 1, p + 1), modulo(-3, p));
            int top = Make.term(w, 1, 40, 6);
            DUE.is("x^40 y^6 at -1, -1", w.value(top, -1, -1), 1);
            DUE.is("x^40 y^6 at 0, 1", w.value(top, 0, 1), 0);
            DUE.is("x^40 y^6 at 2, 3", w.value(top, 2, 3),
                BigInteger.TWO.pow(40).multiply(BigInteger.valueOf(729)).mod(big).longValue());
        }
    }

    /** "NONE: no such PLACE" of value(). */
    private static void valuePlaces() {
        PolyWork w = Make.field(13);
        w.constant(5);
        w.constant(6);
        w.drop(0);
        DUE.is("PLACE 1", w.value(1, Long.MIN_VALUE, Long.MAX_VALUE), 6);
        for (int a : new int[] {LEAST, -1, 0, 2, 99, 100, MOST}) {
            DUE.is("PLACE " + a, w.value(a, 0, 0), -1);
        }
    }

    /** "Whether two are alike": one number makes them not so, wherever it stands. */
    private static void sameAlike() {
        for (int p : new int[] {2, 65521}) {
            PolyWork w = Make.field(p);
            w.constant(1);
            w.constant(p + 1);
            w.constant(0);
            w.constant(p);
            DUE.is("itself", w.same(0, 0), true);
            DUE.is("alike", w.same(0, 1), true);
            DUE.is("0 and 1", w.same(2, 0), false);
            DUE.is("0 and p", w.same(2, 3), true);
            int[][] ends = {{0, 0}, {1, 0}, {40, 0}, {0, 1}, {0, 6}, {40, 6}, {39, 6}, {40, 5}};
            for (int[] end : ends) {
                int a = w.plus(0, 1, end[0], end[1]);
                DUE.is("one more", w.same(a, 0), false);
                DUE.is("one more", w.same(0, a), false);
                DUE.is("and less", w.same(0, w.plus(a, -1, end[0], end[1])), true);
            }
        }
    }

    /** "False: also no such PLACE". */
    private static void samePlaces() {
        PolyWork w = Make.field(5);
        w.constant(0);
        w.constant(0);
        w.constant(0);
        w.drop(1);
        DUE.is("two", w.same(0, 2), true);
        for (int a : new int[] {LEAST, -1, 1, 3, 99, 100, MOST}) {
            DUE.is("second " + a, w.same(0, a), false);
            DUE.is("first " + a, w.same(a, 0), false);
            DUE.is("both " + a, w.same(a, a), false);
        }
    }

    /** "False: none such" of drop(). */
    private static void dropPlaces() {
        PolyWork w = Make.field(5);
        Make.fill(w, 0);
        for (int a : new int[] {LEAST, -1, 100, 101, MOST}) {
            DUE.is("drop " + a, w.drop(a), false);
        }
        DUE.is("still full", w.constant(1), -5);
        for (int a : new int[] {0, 1, 98, 99}) {
            DUE.is("drop " + a, w.drop(a), true);
            DUE.is("drop again " + a, w.drop(a), false);
        }
    }

    /** "its PLACE is free", and what comes there has nothing of the old one. */
    private static void dropFrees() {
        PolyWork w = Make.field(5);
        w.constant(1);
        w.plus(0, 2, 40, 6);
        w.constant(3);
        DUE.is("drop", w.drop(1), true);
        DUE.is("gone: at", w.at(1, 40, 6), -1);
        DUE.is("gone: degree", w.degree(1, 0), -2);
        DUE.is("gone: factor", w.factor(1), -1);
        DUE.is("the PLACE is free", w.variable(1), 1);
        DUE.is("nothing of the old one", w.at(1, 40, 6), 0);
        DUE.holds("y", w, 1, new long[] {1, 0, 1});
        DUE.row("its neighbour", w, 0, 1);
        DUE.row("its neighbour", w, 2, 3);
    }

    /** "PLACES 0 .. 99" and "-5 no PLACE is free". */
    private static void placesToTheLast() {
        PolyWork w = Make.field(101);
        for (int a = 0; a < 100; a++) {
            DUE.is("PLACE " + a, w.constant(a), a);
        }
        DUE.is("no PLACE is free", w.constant(100), -5);
        DUE.is("no PLACE is free", w.constant(0), -5);
        for (int a = 0; a < 100; a++) {
            DUE.is("at " + a, w.at(a, 0, 0), a);
        }
        DUE.is("at 100", w.at(100, 0, 0), -1);
        DUE.is("drop the last", w.drop(99), true);
        DUE.is("the last", w.constant(7), 99);
        DUE.is("full", w.constant(7), -5);
        DUE.is("drop the first", w.drop(0), true);
        DUE.is("the first", w.constant(7), 0);
        DUE.is("full", w.constant(7), -5);
    }

    private static void leastFreeOf(String call, ToIntFunction<PolyWork> makes) {
        PolyWork w = Make.field(7);
        w.variable(0);
        w.variable(1);
        w.plus(0, 3, 2, 0);
        w.factor(2);
        Make.fill(w, 0);
        DUE.is(call + ": full", makes.applyAsInt(w), -5);
        w.drop(99);
        w.drop(3);
        w.drop(50);
        w.drop(4);
        DUE.is(call + ": first", makes.applyAsInt(w), 3);
        DUE.is(call + ": second", makes.applyAsInt(w), 4);
        DUE.is(call + ": third", makes.applyAsInt(w), 50);
        DUE.is(call + ": last", makes.applyAsInt(w), 99);
        DUE.is(call + ": full again", makes.applyAsInt(w), -5);
        DUE.is(call + ": alike", w.same(3, 99) && w.same(4, 50) && w.same(3, 4), true);
    }

    /** "a new one comes to the least free PLACE", of every call that gives one. */
    private static void leastFree() {
        leastFreeOf("constant", w -> w.constant(1));
        leastFreeOf("x", w -> w.variable(0));
        leastFreeOf("y", w -> w.variable(1));
        leastFreeOf("plus", w -> w.plus(0, 1, 0, 0));
        leastFreeOf("power", w -> w.power(0, 5, 2));
        leastFreeOf("take", w -> w.take(0));
        leastFreeOf("interpolate", w -> w.interpolate());
        for (int act = 0; act <= 11; act++) {
            int one = act;
            int second = act == 11 ? 2 : 0;
            int first = act == 11 ? 97 : 0;
            leastFreeOf("act " + act, w -> w.apply(one, first, second));
        }
        leastFreeOf("act 12", w -> w.apply(12, 1, 1));
        leastFreeOf("act 13", w -> w.apply(13, 0, 2));
    }

    /** "a refusal by a number below 0, the first of these", of apply(); "No such act: -2, ahead of all". */
    private static void firstRefusalOfApply() {
        PolyWork w = Make.field(7);
        int zero = w.constant(0);
        int y = w.variable(1);
        int wide = Make.term(w, 1, 40, 6);
        int high = Make.whole(w, new long[] {1, 7, 6}, new long[] {1, 0, 0});
        for (int act : new int[] {LEAST, -2, -1, 14, 15, MOST}) {
            DUE.is("-2 ahead of -1", w.apply(act, -1, 100), -2);
            DUE.is("-2 alone", w.apply(act, zero, zero), -2);
        }
        for (int act = 0; act <= 13; act++) {
            DUE.is("-1 of a, act " + act, w.apply(act, 99, zero), -1);
            DUE.is("-1 of a, act " + act, w.apply(act, 99, wide), -1);
            if (act != 3 && act != 6 && act != 7) {
                DUE.is("-1 of b, act " + act, w.apply(act, wide, 99), -1);
            }
        }
        for (int act : new int[] {8, 9, 10, 11, 13}) {
            DUE.is("-2 ahead of -3, act " + act, w.apply(act, y, zero), -2);
            DUE.is("-2 ahead of -3, act " + act, w.apply(act, zero, y), -2);
        }
        DUE.is("-2 ahead of -4, act 12", w.apply(12, high, high), -2);
        DUE.is("-2 of 0, act 12", w.apply(12, zero, y), -2);
        DUE.is("-2 of 0, act 12", w.apply(12, y, zero), -2);
    }

    /** The same of power(), plus() and factor(). */
    private static void firstRefusalOfOthers() {
        PolyWork w = Make.field(7);
        int zero = w.constant(0);
        int y = w.variable(1);
        int x = w.variable(0);
        DUE.is("power: -1 ahead of -2", w.power(99, -1, y), -1);
        DUE.is("power: -1 ahead of -2", w.power(y, -1, 99), -1);
        DUE.is("power: -1 ahead of -3", w.power(99, 1, zero), -1);
        DUE.is("power: -2 of a ahead of -3", w.power(y, 1, zero), -2);
        DUE.is("power: -2 of n ahead of -3", w.power(x, -1, zero), -2);
        DUE.is("power: -2 of m, which is of DEGREE 0 in x", w.power(x, 1, y), -2);
        DUE.is("plus: -1 ahead of -4", w.plus(99, 1, 41, 7), -1);
        DUE.is("factor: -2 ahead of -3", w.factor(y), -2);
    }

    /** The same when no PLACE is free: -5 comes last. */
    private static void firstRefusalWhenFull() {
        PolyWork w = Make.field(7);
        int zero = w.constant(0);
        int y = w.variable(1);
        int x = w.variable(0);
        int wide = Make.term(w, 1, 40, 6);
        int lines = Make.whole(w, new long[] {1, 0, 1}, new long[] {6, 6, 0});
        int heavy = Make.term(w, 1, 5, 6);
        w.factor(x);
        Make.fill(w, 0);
        DUE.is("variable", w.variable(2), -2);
        DUE.is("no such act", w.apply(14, x, x), -2);
        DUE.is("no PLACE", w.apply(0, x, 100), -1);
        DUE.is("not PLAIN", w.apply(9, x, y), -2);
        DUE.is("12 of PLAIN ones", w.apply(12, x, y), -2);
        DUE.is("by 0", w.apply(8, x, zero), -3);
        DUE.is("by 0", w.apply(9, x, zero), -3);
        DUE.is("no inverse", w.apply(11, x, x), -3);
        DUE.is("13 of 0", w.apply(13, x, zero), -3);
        DUE.is("2 too high", w.apply(2, wide, x), -4);
        DUE.is("4 too high", w.apply(4, wide, wide), -4);
        DUE.is("5 too high", w.apply(5, wide, wide), -4);
        DUE.is("12 too high", w.apply(12, lines, heavy), -4);
        DUE.is("plus too high", w.plus(x, 1, 41, 0), -4);
        DUE.is("plus no PLACE", w.plus(-1, 1, 0, 0), -1);
        DUE.is("power no PLACE", w.power(100, 1, x), -1);
        DUE.is("power n", w.power(x, -1, x), -2);
        DUE.is("power m", w.power(x, 1, zero), -3);
        DUE.is("take none", w.take(1), -1);
        DUE.is("take", w.take(0), -5);
        DUE.is("power", w.power(x, 1, x), -5);
        DUE.is("plus", w.plus(x, 1, 40, 6), -5);
        for (int act = 0; act <= 10; act++) {
            DUE.is("act " + act, w.apply(act, x, x), -5);
        }
        DUE.is("act 12", w.apply(12, y, y), -5);
        DUE.is("act 13", w.apply(13, x, x), -5);
        DUE.is("factor needs no PLACE", w.factor(x), 1);
        DUE.is("point needs no PLACE", w.point(1, 1), 1);
    }

    /** "PLAIN are those without y": 0, numbers and what has lost its y are. */
    private static void plainOnes() {
        PolyWork w = Make.field(3);
        int x = w.variable(0);
        int y = w.variable(1);
        int zero = w.constant(0);
        int mixed = w.apply(2, x, y);
        int lost = w.apply(1, w.plus(mixed, 1, 40, 0), mixed);
        int top = Make.term(w, 1, 0, 6);
        DUE.is("0", w.apply(10, zero, zero) >= 0, true);
        DUE.is("x^40 without its x y", w.apply(9, lost, x) >= 0, true);
        DUE.is("y", w.apply(9, y, x), -2);
        DUE.is("x y", w.apply(9, mixed, x), -2);
        DUE.is("by x y", w.apply(9, x, mixed), -2);
        DUE.is("y^6", w.apply(9, top, x), -2);
    }

    /** "at most 512 calls": the 512th is answered as the first ones are. */
    private static void lastCall() {
        PolyWork w = Make.field(65521);
        int calls = 1;
        for (; calls < 101; calls++) {
            w.constant(calls);
        }
        for (; calls + 2 <= 510; calls += 2) {
            DUE.is("drop", w.drop(calls % 100), true);
            DUE.is("the freed PLACE", w.variable(calls % 2), calls % 100);
        }
        for (; calls < 511; calls++) {
            DUE.is("full", w.plus(0, 1, 0, 0), -5);
        }
        DUE.is("the 512th call", w.constant(1), -5);
    }
}
