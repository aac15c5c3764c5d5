/**
 * The boundary cases that the document names in promises 13 to 19 and of FACTORS, SQUARE-FREE PARTS and ROOTS. A method
 * for each sentence, which stands above it; answers are worked out by hand.
 */
public final class FactorEdgesTest {
    private static final Due DUE = new Due("FactorEdgesTest");
    private static final int LEAST = Make.LEAST;
    private static final int MOST = Make.MOST;
    private static final int[] FIELDS = {2, 3, 5, 257, 65519, 65521};

    public static void main(String[] args) {
        factorPlaces();
        factorPlain();
        factorDegrees();
        factorOfOne();
        factorOfForty();
        factorsOfForty();
        oneFactorFortyTimes();
        factorsByDegree();
        factorsByNumbers();
        factorsInOrderOfTheGreaterPower();
        stayWhateverBecomesOfThePlace();
        stayTillNotRefused();
        goWithTheNext();
        goWithPrime();
        factorOfIndices();
        factorOfWhat();
        factorAtIndices();
        factorAtPowers();
        takeIndices();
        takeWhenFull();
        takeIsNew();
        toldWhat();
        toldLeading();
        toldNumbers();
        partIndices();
        partWhat();
        partsInOrder();
        mostParts();
        partsOfPthPowers();
        rootIndices();
        rootsInOrder();
        rootsOnce();
        rootsAtTheEnds();
        DUE.end();
    }

    private static long[] t(long c, long i) {
        return new long[] {c, i, 0};
    }

    /** 3 x (x + 1)^2 (x + 4) (x^2 + 2)^2 in the field of 5, factored. */
    private static PolyWork told() {
        PolyWork w = Make.field(5);
        int square = Make.plain(w, 2, 0, 1);
        int line = Make.plain(w, 1, 1);
        int a = w.apply(2, w.apply(2, square, square), w.apply(2, line, line));
        int b = w.apply(2, w.apply(2, a, Make.plain(w, 0, 3)), Make.plain(w, 4, 1));
        DUE.is("factor", w.factor(b), 4);
        return w;
    }

    /** All that told() has to tell. */
    private static void isTold(String when, PolyWork w) {
        int[] told = {3, 2, 3, 6};
        for (int what = 0; what < 4; what++) {
            DUE.is(when + ": told " + what, w.told(what), told[what]);
        }
        int[] often = {1, 2, 1, 2};
        int[] degrees = {1, 1, 1, 2};
        int[] last = {0, 1, 4, 2};
        for (int i = 0; i < 4; i++) {
            DUE.is(when + ": how often " + i, w.factorOf(i, 0), often[i]);
            DUE.is(when + ": DEGREE " + i, w.factorOf(i, 1), degrees[i]);
            DUE.is(when + ": number " + i, w.factorAt(i, 0), last[i]);
        }
        DUE.is(when + ": none more", w.factorOf(4, 0), -1);
        int[] roots = {0, 1, 4, -1};
        for (int i = 0; i < 4; i++) {
            DUE.is(when + ": ROOT " + i, w.root(i), roots[i]);
        }
        // x^2 + 4 x once, x^3 + x^2 + 2 x + 2 twice.
        int[][] parts = {{1, 2, 0, 4, 1, 0}, {2, 3, 2, 2, 1, 1}, {-1, -1, -1, -1, -1, -1}};
        for (int i = 0; i < 3; i++) {
            for (int what = 0; what < 6; what++) {
                DUE.is(when + ": part " + i + " " + what, w.part(i, what), parts[i][what]);
            }
        }
    }

    /** "-1 .. as told": no such PLACE. */
    private static void factorPlaces() {
        PolyWork w = Make.field(5);
        w.variable(0);
        w.variable(0);
        w.drop(0);
        for (int a : new int[] {LEAST, -1, 0, 2, 99, 100, MOST}) {
            DUE.is("factor " + a, w.factor(a), -1);
        }
        DUE.is("nothing told", w.told(0), -1);
        DUE.is("factor 1", w.factor(1), 1);
        DUE.is("told", w.told(0), 1);
        Make.fill(w, 0);
        for (int a : new int[] {LEAST, -1, 100, MOST}) {
            DUE.is("factor " + a, w.factor(a), -1);
        }
    }

    /** "-2 as told": not PLAIN. */
    private static void factorPlain() {
        PolyWork w = Make.field(5);
        int x = w.variable(0);
        int y = w.variable(1);
        int sum = w.apply(0, x, y);
        int product = w.apply(2, x, y);
        int top = Make.whole(w, new long[] {1, 40, 0}, new long[] {1, 0, 6});
        for (int a : new int[] {y, sum, product, top}) {
            DUE.is("with y", w.factor(a), -2);
        }
        DUE.is("nothing told", w.told(0), -1);
        DUE.is("without its y", w.factor(w.apply(1, sum, y)), 1);
    }

    /** "-3: DEGREE below 1". */
    private static void factorDegrees() {
        for (int p : FIELDS) {
            PolyWork w = Make.field(p);
            DUE.is("0", w.factor(w.constant(0)), -3);
            DUE.is("1", w.factor(w.constant(1)), -3);
            DUE.is("p - 1", w.factor(w.constant(-1)), -3);
            DUE.is("x - x", w.factor(w.apply(1, w.variable(0), w.variable(0))), -3);
            DUE.is("nothing told", w.told(0), -1);
            DUE.is("x", w.factor(w.variable(0)), 1);
            DUE.is("told", w.told(3), 1);
        }
    }

    /** "of DEGREE 1 or more", the least: it is its own FACTOR, MONIC. */
    private static void factorOfOne() {
        for (int p : FIELDS) {
            PolyWork w = Make.field(p);
            DUE.is("- x - 1", w.factor(Make.plain(w, -1, -1)), 1);
            DUE.is("LEADING", w.told(0), p - 1);
            DUE.is("how often", w.factorOf(0, 0), 1);
            DUE.is("DEGREE", w.factorOf(0, 1), 1);
            DUE.is("1", w.factorAt(0, 0), 1);
            DUE.is("x", w.factorAt(0, 1), 1);
            DUE.is("ROOT", w.root(0), p - 1);
            DUE.is("no more", w.root(1), -1);
            DUE.is("part: k", w.part(0, 0), 1);
            DUE.is("part: DEGREE", w.part(0, 1), 1);
        }
    }

    /** The greatest DEGREE that a FACTOR can have, 40: x^40 + x^5 + x^4 + x^3 + 1 is no product. */
    private static void factorOfForty() {
        PolyWork w = new PolyWork();
        int a = Make.whole(w, t(1, 40), t(1, 5), t(1, 4), t(1, 3), t(1, 0));
        DUE.is("factor", w.factor(a), 1);
        DUE.is("DEGREE", w.factorOf(0, 1), 40);
        DUE.is("x^40", w.factorAt(0, 40), 1);
        DUE.is("x^39", w.factorAt(0, 39), 0);
        DUE.is("x^5", w.factorAt(0, 5), 1);
        DUE.is("x^41", w.factorAt(0, 41), -1);
        DUE.is("part: DEGREE", w.part(0, 1), 40);
        DUE.is("part: x^40", w.part(0, 42), 1);
        DUE.is("part: x^39", w.part(0, 41), 0);
        DUE.is("part: x^41", w.part(0, 43), -1);
        DUE.is("no ROOTS", w.told(2), 0);
        DUE.is("no ROOT", w.root(0), -1);
        DUE.is("take", w.same(w.take(0), a), true);
    }

    /** The greatest number of FACTORS and of ROOTS, 40: x^40 - 1 in the field of 41 is 0 at all but 0. */
    private static void factorsOfForty() {
        PolyWork w = Make.field(41);
        DUE.is("factor", w.factor(Make.whole(w, t(2, 40), t(-2, 0))), 40);
        DUE.is("LEADING", w.told(0), 2);
        DUE.is("parts", w.told(1), 1);
        DUE.is("ROOTS", w.told(2), 40);
        DUE.is("together", w.told(3), 40);
        for (int i = 0; i < 40; i++) {
            DUE.is("x + " + (i + 1), w.factorAt(i, 0), i + 1);
            DUE.is("ROOT " + i, w.root(i), i + 1);
        }
        DUE.is("none more", w.factorOf(40, 0), -1);
        DUE.is("none more", w.factorAt(40, 0), -1);
        DUE.is("none more", w.take(40), -1);
        DUE.is("none more", w.root(40), -1);
        DUE.is("the last", w.take(39) >= 0, true);
    }

    /** The greatest how often, 40. */
    private static void oneFactorFortyTimes() {
        for (int p : FIELDS) {
            PolyWork w = Make.field(p);
            DUE.is("- x^40", w.factor(Make.whole(w, t(-1, 40))), 1);
            DUE.is("how often", w.factorOf(0, 0), 40);
            DUE.is("LEADING", w.told(0), p - 1);
            DUE.is("parts", w.told(1), 1);
            DUE.is("ROOTS", w.told(2), 1);
            DUE.is("together", w.told(3), 40);
            DUE.is("k", w.part(0, 0), 40);
            DUE.is("its DEGREE", w.part(0, 1), 1);
            DUE.is("its x", w.part(0, 3), 1);
            DUE.is("ROOT", w.root(0), 0);
        }
    }

    /** "lesser DEGREES first", though numbers and how often say another order. */
    private static void factorsByDegree() {
        PolyWork w = Make.field(3);
        int a = w.apply(2, Make.plain(w, 1, 0, 1), Make.plain(w, 2, 1));
        int b = w.apply(2, a, Make.plain(w, 2, 1));
        DUE.is("(x^2 + 1) (x + 2)^2", w.factor(b), 2);
        DUE.is("first", w.factorOf(0, 1), 1);
        DUE.is("first", w.factorOf(0, 0), 2);
        DUE.is("second", w.factorOf(1, 1), 2);
        DUE.is("second", w.factorOf(1, 0), 1);
    }

    /** "then by numbers from the greatest power down, lesser ones first". */
    private static void factorsByNumbers() {
        PolyWork w = Make.field(5);
        // Made from the last to the first: x^2 + x + 2, x^2 + x + 1, x^2 + 3, x^2 + 2.
        int a = w.apply(2, Make.plain(w, 2, 1, 1), Make.plain(w, 1, 1, 1));
        int b = w.apply(2, Make.plain(w, 3, 0, 1), Make.plain(w, 2, 0, 1));
        DUE.is("factor", w.factor(w.apply(2, a, b)), 4);
        int[][] due = {{2, 0}, {3, 0}, {1, 1}, {2, 1}};
        for (int i = 0; i < 4; i++) {
            DUE.is("number of " + i, w.factorAt(i, 0), due[i][0]);
            DUE.is("x of " + i, w.factorAt(i, 1), due[i][1]);
            DUE.is("x^2 of " + i, w.factorAt(i, 2), 1);
        }
    }

    /** The same where the lesser powers say another order. */
    private static void factorsInOrderOfTheGreaterPower() {
        PolyWork w = new PolyWork();
        DUE.is("x^7 + 1", w.factor(Make.whole(w, t(1, 7), t(1, 0))), 3);
        DUE.is("x + 1", w.factorOf(0, 1), 1);
        DUE.is("x^3 + x + 1", w.factorAt(1, 1), 1);
        DUE.is("x^3 + x + 1", w.factorAt(1, 2), 0);
        DUE.is("x^3 + x^2 + 1", w.factorAt(2, 1), 0);
        DUE.is("x^3 + x^2 + 1", w.factorAt(2, 2), 1);
    }

    /** "They stay told .., whatever becomes of its PLACE". */
    private static void stayWhateverBecomesOfThePlace() {
        PolyWork w = told();
        isTold("at once", w);
        for (int a = 0; a < 100; a++) {
            w.drop(a);
        }
        isTold("its PLACE is free", w);
        for (int a = 0; a < 12; a++) {
            w.variable(a % 2);
        }
        isTold("another is there", w);
        DUE.row("take", w, w.take(3), 2, 0, 1);
    }

    /** "till the next factor() that is not refused": -1, -2, -3 leave them, and so do other calls. */
    private static void stayTillNotRefused() {
        PolyWork w = told();
        int y = w.variable(1);
        int x = w.variable(0);
        DUE.is("-1", w.factor(99), -1);
        DUE.is("-2", w.factor(y), -2);
        DUE.is("-3", w.factor(w.constant(0)), -3);
        DUE.is("-3", w.factor(w.constant(4)), -3);
        isTold("refused", w);
        w.apply(10, x, x);
        w.apply(11, w.constant(2), x);
        w.apply(12, y, y);
        w.apply(13, x, x);
        w.power(x, 77, x);
        w.point(1, 1);
        w.interpolate();
        w.take(0);
        w.value(x, 1, 1);
        isTold("other calls", w);
        DUE.is("a refused prime", w.prime(6), false);
        isTold("a refused prime", w);
        Make.fill(w, 0);
        isTold("no PLACE is free", w);
    }

    /** "till the next factor() that is not refused": nothing of the former is left. */
    private static void goWithTheNext() {
        PolyWork w = told();
        DUE.is("x", w.factor(w.variable(0)), 1);
        int[] told = {1, 1, 1, 1};
        for (int what = 0; what < 4; what++) {
            DUE.is("told " + what, w.told(what), told[what]);
        }
        DUE.is("no FACTOR 1", w.factorOf(1, 0), -1);
        DUE.is("no FACTOR 1", w.factorAt(1, 0), -1);
        DUE.is("no FACTOR 1", w.take(1), -1);
        DUE.is("no part 1", w.part(1, 0), -1);
        DUE.is("no ROOT 1", w.root(1), -1);
        DUE.is("FACTOR 0", w.factorAt(0, 0), 0);
        DUE.is("above its DEGREE", w.factorAt(0, 2), 0);
        DUE.is("part 0", w.part(0, 1), 1);
        DUE.is("above its DEGREE", w.part(0, 4), 0);
        DUE.is("a second time", w.factor(w.variable(0)), 1);
        DUE.is("a second time", w.told(3), 1);
    }

    /** "or prime()". */
    private static void goWithPrime() {
        for (int p : new int[] {5, 7}) {
            PolyWork w = told();
            DUE.is("prime", w.prime(p), true);
            for (int k = -1; k <= 4; k++) {
                DUE.is("told", w.told(k), -1);
                DUE.is("root", w.root(k), -1);
                DUE.is("take", w.take(k), -1);
                for (int what = 0; what <= 2; what++) {
                    DUE.is("factorOf", w.factorOf(k, what), -1);
                    DUE.is("factorAt", w.factorAt(k, what), -1);
                    DUE.is("part", w.part(k, what), -1);
                }
            }
            DUE.is("factor", w.factor(w.variable(0)), 1);
            DUE.is("told again", w.told(0), 1);
        }
    }

    /** "NONE: none such" of factorOf(): i. */
    private static void factorOfIndices() {
        PolyWork w = told();
        for (int i : new int[] {LEAST, -1, 4, 5, 39, 40, 41, MOST}) {
            DUE.is("i " + i, w.factorOf(i, 0), -1);
            DUE.is("i " + i, w.factorOf(i, 1), -1);
        }
        DUE.is("the first", w.factorOf(0, 0), 1);
        DUE.is("the last", w.factorOf(3, 0), 2);
    }

    /** "NONE: none such" of factorOf(): what. */
    private static void factorOfWhat() {
        PolyWork w = told();
        for (int what : new int[] {LEAST, -1, 2, 3, MOST}) {
            DUE.is("what " + what, w.factorOf(3, what), -1);
            DUE.is("what " + what + ", no FACTOR", w.factorOf(4, what), -1);
        }
        DUE.is("how often", w.factorOf(3, 0), 2);
        DUE.is("DEGREE", w.factorOf(3, 1), 2);
    }

    /** "NONE: no such FACTOR" of factorAt(). */
    private static void factorAtIndices() {
        PolyWork w = told();
        for (int i : new int[] {LEAST, -1, 4, 5, 39, 40, MOST}) {
            for (int k : new int[] {LEAST, -1, 0, 1, 40, 41, MOST}) {
                DUE.is("i " + i, w.factorAt(i, k), -1);
            }
        }
        DUE.is("the first", w.factorAt(0, 0), 0);
        DUE.is("the last", w.factorAt(3, 0), 2);
    }

    /** "(k up to 40)", "NONE: .. k": above its DEGREE the numbers are 0. */
    private static void factorAtPowers() {
        PolyWork w = told();
        int[] due = {2, 0, 1, 0, 0};
        for (int k = 0; k < 5; k++) {
            DUE.is("x^" + k, w.factorAt(3, k), due[k]);
        }
        DUE.is("x^39", w.factorAt(3, 39), 0);
        DUE.is("x^40", w.factorAt(3, 40), 0);
        for (int k : new int[] {LEAST, -2, -1, 41, 42, MOST}) {
            DUE.is("x^" + k, w.factorAt(3, k), -1);
        }
    }

    /** "-1: no such FACTOR". */
    private static void takeIndices() {
        PolyWork w = told();
        for (int i : new int[] {LEAST, -1, 4, 5, 40, MOST}) {
            DUE.is("take " + i, w.take(i), -1);
        }
        DUE.row("the first", w, w.take(0), 0, 1);
        DUE.row("the last", w, w.take(3), 2, 0, 1);
    }

    /** "-1: no such FACTOR; -5", in this order. */
    private static void takeWhenFull() {
        PolyWork w = told();
        Make.fill(w, 1);
        int last = w.take(1);
        DUE.is("the last PLACE", last >= 0, true);
        DUE.is("full", w.take(1), -5);
        DUE.is("full, no such FACTOR", w.take(4), -1);
        DUE.is("full, no such FACTOR", w.take(-1), -1);
        w.drop(last);
        DUE.is("free again", w.take(1), last);
        isTold("after all", w);
    }

    /** "as a new POLYNOMIAL": what becomes of it is nothing to the FACTOR. */
    private static void takeIsNew() {
        PolyWork w = told();
        int a = w.take(3);
        int b = w.take(3);
        DUE.is("another PLACE", a != b, true);
        w.drop(a);
        DUE.row("the other one", w, b, 2, 0, 1);
        w.drop(b);
        isTold("both are gone", w);
    }

    /** "NONE: .. another what". */
    private static void toldWhat() {
        PolyWork w = told();
        for (int what : new int[] {LEAST, -2, -1, 4, 5, MOST}) {
            DUE.is("told " + what, w.told(what), -1);
        }
        DUE.is("told 0", w.told(0), 3);
        DUE.is("told 3", w.told(3), 6);
    }

    /** "its LEADING number": 1 .. p - 1. */
    private static void toldLeading() {
        for (int p : FIELDS) {
            PolyWork w = Make.field(p);
            w.factor(Make.plain(w, 1, 0, 1));
            DUE.is("1", w.told(0), 1);
            w.factor(Make.plain(w, 1, 0, -1));
            DUE.is("p - 1", w.told(0), p - 1);
            DUE.is("the FACTORS are MONIC", w.factorAt(0, w.factorOf(0, 1)), 1);
        }
    }

    /** "3 FACTORS with how often, together" and the other numbers, of one without ROOTS. */
    private static void toldNumbers() {
        PolyWork w = Make.field(3);
        int a = Make.plain(w, 1, 0, 1);
        DUE.is("(x^2 + 1)^2", w.factor(w.apply(2, a, a)), 1);
        DUE.is("parts", w.told(1), 1);
        DUE.is("ROOTS", w.told(2), 0);
        DUE.is("together", w.told(3), 2);
        DUE.is("ROOT 0", w.root(0), -1);
    }

    /** "NONE: none such" of part(). */
    private static void partIndices() {
        PolyWork w = told();
        for (int i : new int[] {LEAST, -1, 2, 3, 7, 8, 9, MOST}) {
            for (int what : new int[] {LEAST, -1, 0, 1, 2, 42, 43, MOST}) {
                DUE.is("part " + i, w.part(i, what), -1);
            }
        }
        DUE.is("the first", w.part(0, 0), 1);
        DUE.is("the last", w.part(1, 0), 2);
    }

    /** "what not 0 .. 42". */
    private static void partWhat() {
        PolyWork w = told();
        for (int what : new int[] {LEAST, LEAST + 1, -2, -1, 43, 44, MOST - 1, MOST}) {
            DUE.is("what " + what, w.part(0, what), -1);
        }
        DUE.is("k", w.part(1, 0), 2);
        DUE.is("DEGREE", w.part(1, 1), 3);
        DUE.is("x^0", w.part(1, 2), 2);
        DUE.is("x^3", w.part(1, 5), 1);
        DUE.is("x^4", w.part(1, 6), 0);
        DUE.is("x^39", w.part(1, 41), 0);
        DUE.is("x^40", w.part(1, 42), 0);
        PolyWork v = Make.field(41);
        v.factor(Make.whole(v, t(2, 40), t(-2, 0)));
        DUE.is("DEGREE 40", v.part(0, 1), 40);
        DUE.is("x^0 of x^40 - 1", v.part(0, 2), 40);
        DUE.is("x^39 of x^40 - 1", v.part(0, 41), 0);
        DUE.is("x^40 of x^40 - 1", v.part(0, 42), 1);
        DUE.is("x^41", v.part(0, 43), -1);
    }

    /** "for each k that some FACTOR has .., lesser k first": no part for a k that none has. */
    private static void partsInOrder() {
        PolyWork w = Make.field(7);
        // x^5 (x + 1)^3 (x + 2): the FACTORS come the other way round.
        int cube = w.apply(2, Make.plain(w, 1, 1), Make.plain(w, 1, 2, 1));
        int a = w.apply(2, w.apply(2, Make.whole(w, t(1, 5)), cube), Make.plain(w, 2, 1));
        DUE.is("factor", w.factor(a), 3);
        DUE.is("parts", w.told(1), 3);
        int[][] due = {{1, 1, 2, 1}, {3, 1, 1, 1}, {5, 1, 0, 1}};
        for (int i = 0; i < 3; i++) {
            for (int what = 0; what < 4; what++) {
                DUE.is("part " + i + " " + what, w.part(i, what), due[i][what]);
            }
        }
        DUE.is("no part 3", w.part(3, 0), -1);
    }

    /** Eight parts go into DEGREE 40, for k 1 .. 8 of lines make 36: the most that can be. */
    private static void mostParts() {
        PolyWork w = Make.field(65521);
        int all = w.constant(5);
        for (int k = 1; k <= 8; k++) {
            int line = Make.plain(w, 9 - k, 1);
            for (int n = 0; n < k; n++) {
                int next = w.apply(2, all, line);
                w.drop(all);
                all = next;
            }
            w.drop(line);
        }
        DUE.is("factor", w.factor(all), 8);
        DUE.is("parts", w.told(1), 8);
        DUE.is("together", w.told(3), 36);
        for (int i = 0; i < 8; i++) {
            DUE.is("k of " + i, w.part(i, 0), i + 1);
            DUE.is("DEGREE of " + i, w.part(i, 1), 1);
            DUE.is("number of " + i, w.part(i, 2), 8 - i);
            DUE.is("FACTOR " + i, w.factorAt(i, 0), i + 1);
            DUE.is("how often FACTOR " + i, w.factorOf(i, 0), 8 - i);
        }
        DUE.is("no part 8", w.part(8, 0), -1);
    }

    /** How often may be p, a multiple or a power of it, where the derivative has nothing to tell. */
    private static void partsOfPthPowers() {
        PolyWork w = new PolyWork();
        DUE.is("x^40 + x^8 is x^8 (x + 1)^32", w.factor(Make.whole(w, t(1, 40), t(1, 8))), 2);
        DUE.is("x", w.factorOf(0, 0), 8);
        DUE.is("x + 1", w.factorOf(1, 0), 32);
        DUE.is("k", w.part(0, 0), 8);
        DUE.is("k", w.part(1, 0), 32);
        PolyWork v = Make.field(37);
        DUE.is("x^38 + x is x (x + 1)^37", v.factor(Make.whole(v, t(1, 38), t(1, 1))), 2);
        DUE.is("x", v.factorOf(0, 0), 1);
        DUE.is("x + 1", v.factorOf(1, 0), 37);
        PolyWork u = Make.field(3);
        DUE.is("x^27 + 1", u.factor(Make.whole(u, t(1, 27), t(1, 0))), 1);
        DUE.is("x + 1", u.factorOf(0, 0), 27);
    }

    /** "NONE: none such" of root(). */
    private static void rootIndices() {
        PolyWork w = told();
        for (int i : new int[] {LEAST, -1, 3, 4, 39, 40, 41, MOST}) {
            DUE.is("root " + i, w.root(i), -1);
        }
        DUE.is("the first", w.root(0), 0);
        DUE.is("the last", w.root(2), 4);
    }

    /** "lesser ones first": ROOTS come from x + c with greater c first. */
    private static void rootsInOrder() {
        PolyWork w = Make.field(65521);
        int a = w.apply(2, Make.plain(w, -65520, 1), Make.plain(w, -1, 1));
        int b = w.apply(2, Make.plain(w, -300, 1), Make.plain(w, -40000, 1));
        DUE.is("factor", w.factor(w.apply(2, a, b)), 4);
        int[] due = {1, 300, 40000, 65520};
        for (int i = 0; i < 4; i++) {
            DUE.is("ROOT " + i, w.root(i), due[i]);
        }
        DUE.is("no ROOT 4", w.root(4), -1);
    }

    /** "the numbers at which it is 0": each once, however often its FACTOR divides. */
    private static void rootsOnce() {
        PolyWork w = Make.field(7);
        int line = Make.plain(w, 3, 1);
        int cube = w.apply(2, line, w.apply(2, line, line));
        DUE.is("x^2 (x + 3)^3", w.factor(w.apply(2, cube, Make.whole(w, t(1, 2)))), 2);
        DUE.is("ROOTS", w.told(2), 2);
        DUE.is("0", w.root(0), 0);
        DUE.is("4", w.root(1), 4);
        DUE.is("no more", w.root(2), -1);
    }

    /** ROOTS 0 and p - 1, and every number of the field. */
    private static void rootsAtTheEnds() {
        for (int p : FIELDS) {
            PolyWork w = Make.field(p);
            w.factor(Make.plain(w, 0, 1, 1));
            DUE.is("ROOTS of x (x + 1)", w.told(2), 2);
            DUE.is("0", w.root(0), 0);
            DUE.is("p - 1", w.root(1), p - 1);
        }
        for (int p : new int[] {2, 3, 5, 7, 31, 37}) {
            PolyWork w = Make.field(p);
            DUE.is("x^p - x", w.factor(Make.whole(w, t(1, p), t(-1, 1))), p);
            for (int i = 0; i < p; i++) {
                DUE.is("ROOT " + i, w.root(i), i);
                DUE.is("FACTOR " + i, w.factorAt(i, 0), i);
            }
            DUE.is("no more", w.root(p), -1);
        }
    }
}
