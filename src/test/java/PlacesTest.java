/** Promises 1 to 4, 6 and 8 to 12: fields, PLACES, numbers, DEGREES, values. */
public final class PlacesTest {
    private static final Due DUE = new Due("PlacesTest");

    public static void main(String[] args) {
        newObject();
        primes();
        constants();
        variables();
        plus();
        numbers();
        degrees();
        values();
        alike();
        drops();
        noRoom();
        twoObjects();
        DUE.end();
    }

    private static void newObject() {
        PolyWork w = new PolyWork();
        DUE.is("NONE", PolyWork.NONE, -1);
        for (int a = -1; a <= 100; a++) {
            DUE.is("new: degree", w.degree(a, 0), -2);
            DUE.is("new: at", w.at(a, 0, 0), -1);
            DUE.is("new: drop", w.drop(a), false);
        }
        for (int what = -1; what <= 4; what++) {
            DUE.is("new: told", w.told(what), -1);
        }
        DUE.is("new: factorOf", w.factorOf(0, 0), -1);
        DUE.is("new: factorAt", w.factorAt(0, 0), -1);
        DUE.is("new: take", w.take(0), -1);
        DUE.is("new: part", w.part(0, 0), -1);
        DUE.is("new: root", w.root(0), -1);
        DUE.is("new: interpolate", w.interpolate(), 0);
        DUE.is("new: no points make 0", w.degree(0, 0), -1);
        DUE.is("p is 2", w.at(w.constant(5), 0, 0), 1);
    }

    private static void primes() {
        PolyWork w = new PolyWork();
        int[] good = {2, 3, 5, 7, 11, 251, 257, 32749, 65519, 65521};
        int[] bad = {Integer.MIN_VALUE, -7, -2, -1, 0, 1, 4, 9, 49, 65025, 63001, 65517, 65520, 65522, 65537, 65539,
            Integer.MAX_VALUE};
        for (int p : good) {
            DUE.is("prime " + p, w.prime(p), true);
            DUE.is("p - 1 stays", w.at(w.constant(p - 1L), 0, 0), p - 1L);
            DUE.is("p is 0", w.at(w.constant(p), 0, 0), 0);
        }
        int count = 0;
        for (int p = 0; p <= 70000; p++) {
            count += w.prime(p) ? 1 : 0;
        }
        DUE.is("how many primes to 65521", count, 6542);

        w.prime(7);
        w.constant(3);
        w.variable(0);
        w.factor(1);
        w.point(1, 2);
        for (int p : bad) {
            DUE.is("prime " + p, w.prime(p), false);
        }
        DUE.is("a refused prime keeps the POLYNOMIALS", w.at(0, 0, 0), 3);
        DUE.is("a refused prime keeps the FACTORS", w.told(3), 1);
        DUE.is("a refused prime keeps the points", w.point(2, 2), 2);
        DUE.is("a refused prime keeps the field", w.at(w.constant(10), 0, 0), 3);
        DUE.is("the same prime", w.prime(7), true);
        DUE.is("no POLYNOMIALS any more", w.at(0, 0, 0), -1);
        DUE.is("no FACTORS any more", w.told(0), -1);
        DUE.is("no FACTORS any more: part", w.part(0, 0), -1);
        DUE.is("no FACTORS any more: root", w.root(0), -1);
        DUE.is("no FACTORS any more: take", w.take(0), -1);
        DUE.is("no points any more", w.point(1, 2), 1);
    }

    private static void constants() {
        PolyWork w = new PolyWork();
        w.prime(7);
        long[] c = {0, 3, 7, 8, -1, -7, -8, Long.MAX_VALUE, Long.MIN_VALUE};
        for (int k = 0; k < c.length; k++) {
            DUE.is("constant " + c[k], w.constant(c[k]), k);
            DUE.is("its number", w.at(k, 0, 0), Math.floorMod(c[k], 7L));
            DUE.is("its x", w.at(k, 1, 0), 0);
        }
    }

    private static void variables() {
        PolyWork w = new PolyWork();
        DUE.is("variable -1", w.variable(-1), -2);
        DUE.is("variable 2", w.variable(2), -2);
        DUE.is("x", w.variable(0), 0);
        DUE.is("y", w.variable(1), 1);
        for (int i = 0; i <= 40; i++) {
            for (int j = 0; j <= 6; j++) {
                DUE.is("x at " + i + " " + j, w.at(0, i, j), i == 1 && j == 0 ? 1 : 0);
                DUE.is("y at " + i + " " + j, w.at(1, i, j), i == 0 && j == 1 ? 1 : 0);
            }
        }
    }

    private static void plus() {
        PolyWork w = new PolyWork();
        w.prime(11);
        DUE.is("plus without a PLACE", w.plus(0, 1, 41, 7), -1);
        w.constant(4);
        int[][] off = {{-1, 0}, {41, 0}, {0, -1}, {0, 7}, {Integer.MAX_VALUE, 0}, {0, Integer.MIN_VALUE}};
        for (int[] ij : off) {
            DUE.is("plus at no power", w.plus(0, 1, ij[0], ij[1]), -4);
            DUE.is("plus 0 at no power", w.plus(0, 0, ij[0], ij[1]), -4);
        }
        DUE.is("plus -1 x^40 y^6", w.plus(0, -1, 40, 6), 1);
        DUE.is("its number", w.at(1, 40, 6), 10);
        DUE.is("the rest stays", w.at(1, 0, 0), 4);
        DUE.is("the old one stays", w.at(0, 40, 6), 0);
        DUE.is("plus the least long", w.plus(1, Long.MIN_VALUE, 40, 6), 2);
        DUE.is("its number", w.at(2, 40, 6), Math.floorMod(Math.floorMod(Long.MIN_VALUE, 11L) + 10L, 11L));
        DUE.is("plus to 0", w.plus(1, 1, 40, 6), 3);
        DUE.is("DEGREE falls", w.degree(3, 0), 0);
    }

    private static void numbers() {
        PolyWork w = new PolyWork();
        w.prime(13);
        w.constant(5);
        w.plus(0, 6, 40, 6);
        DUE.is("at", w.at(1, 40, 6), 6);
        DUE.is("at", w.at(1, 0, 0), 5);
        DUE.is("at i -1", w.at(1, -1, 0), -1);
        DUE.is("at i 41", w.at(1, 41, 0), -1);
        DUE.is("at j -1", w.at(1, 0, -1), -1);
        DUE.is("at j 7", w.at(1, 0, 7), -1);
        DUE.is("at PLACE 2", w.at(2, 0, 0), -1);
        DUE.is("at PLACE -1", w.at(-1, 0, 0), -1);
        DUE.is("at PLACE 100", w.at(100, 0, 0), -1);
    }

    private static void degrees() {
        PolyWork w = new PolyWork();
        w.prime(5);
        w.constant(0);
        w.constant(1);
        w.plus(1, 1, 40, 0);
        w.plus(2, 2, 3, 6);
        DUE.is("of 0 in x", w.degree(0, 0), -1);
        DUE.is("of 0 in y", w.degree(0, 1), -1);
        DUE.is("of 1 in x", w.degree(1, 0), 0);
        DUE.is("of 1 in y", w.degree(1, 1), 0);
        DUE.is("in x", w.degree(3, 0), 40);
        DUE.is("in y", w.degree(3, 1), 6);
        DUE.is("another which", w.degree(3, 2), -2);
        DUE.is("another which", w.degree(3, -1), -2);
        DUE.is("no PLACE", w.degree(4, 0), -2);
        DUE.is("no PLACE", w.degree(-1, 1), -2);
        DUE.is("no PLACE", w.degree(100, 1), -2);
    }

    private static void values() {
        PolyWork w = new PolyWork();
        w.prime(65521);
        w.constant(5);
        w.plus(0, 2, 3, 0);
        w.plus(1, 3, 1, 2);
        DUE.is("value", w.value(2, 2, 3), 5 + 16 + 54);
        DUE.is("value at 0", w.value(2, 0, 0), 5);
        DUE.is("value modulo p", w.value(2, 2 + 65521L, 3 - 65521L), 75);
        DUE.is("value at -1, -1", w.value(2, -1, -1), 0);
        DUE.is("value at long edges", w.value(0, Long.MIN_VALUE, Long.MAX_VALUE), 5);
        long x = Math.floorMod(Long.MIN_VALUE, 65521L);
        long y = Math.floorMod(Long.MAX_VALUE, 65521L);
        long want = (5 + 2 * x % 65521 * x % 65521 * x + 3 * x % 65521 * y % 65521 * y) % 65521;
        DUE.is("value at long edges", w.value(2, Long.MIN_VALUE, Long.MAX_VALUE), want);
        DUE.is("no PLACE", w.value(3, 1, 1), -1);
        DUE.is("no PLACE", w.value(-1, 1, 1), -1);
    }

    private static void alike() {
        PolyWork w = new PolyWork();
        w.prime(3);
        w.constant(1);
        w.constant(4);
        w.constant(2);
        w.plus(0, 1, 40, 6);
        w.plus(1, 1, 40, 6);
        DUE.is("alike", w.same(0, 1), true);
        DUE.is("itself", w.same(3, 3), true);
        DUE.is("alike", w.same(3, 4), true);
        DUE.is("not alike", w.same(0, 2), false);
        DUE.is("not alike", w.same(0, 3), false);
        DUE.is("no PLACE", w.same(5, 5), false);
        DUE.is("no PLACE", w.same(0, -1), false);
        DUE.is("no PLACE", w.same(100, 0), false);
        w.drop(1);
        DUE.is("dropped", w.same(0, 1), false);
        DUE.is("dropped", w.same(1, 0), false);
        DUE.is("dropped", w.same(1, 1), false);
    }

    private static void drops() {
        PolyWork w = new PolyWork();
        for (int k = 0; k < 5; k++) {
            w.constant(1);
        }
        DUE.is("drop", w.drop(3), true);
        DUE.is("drop again", w.drop(3), false);
        DUE.is("drop", w.drop(1), true);
        DUE.is("drop none", w.drop(5), false);
        DUE.is("drop none", w.drop(-1), false);
        DUE.is("drop none", w.drop(100), false);
        DUE.is("the least free PLACE", w.variable(0), 1);
        DUE.is("what was there is gone", w.at(1, 0, 0), 0);
        DUE.is("the next one", w.constant(0), 3);
        DUE.is("the next one", w.constant(0), 5);
    }

    private static void noRoom() {
        PolyWork w = new PolyWork();
        w.prime(7);
        w.variable(0);
        w.variable(1);
        w.factor(0);
        for (int k = 2; k < 100; k++) {
            DUE.is("PLACE", w.constant(k), k);
        }
        DUE.is("full: constant", w.constant(1), -5);
        DUE.is("full: variable", w.variable(0), -5);
        DUE.is("full: variable 2", w.variable(2), -2);
        DUE.is("full: plus", w.plus(0, 1, 0, 0), -5);
        DUE.is("full: plus off", w.plus(0, 1, 41, 0), -4);
        DUE.is("full: plus no PLACE", w.plus(100, 1, 0, 0), -1);
        DUE.is("full: take", w.take(0), -5);
        DUE.is("full: take none", w.take(1), -1);
        DUE.is("full: power", w.power(0, 2, 0), -5);
        DUE.is("full: power of y", w.power(1, 2, 0), -2);
        DUE.is("full: power by 5", w.power(0, 2, 5), -3);
        DUE.is("full: apply", w.apply(0, 0, 1), -5);
        DUE.is("full: apply, 0", w.apply(8, 0, 7), -3);
        w.point(1, 3);
        DUE.is("full: interpolate", w.interpolate(), -5);
        DUE.is("its points are gone", w.point(1, 3), 1);
        w.drop(50);
        DUE.is("room again", w.interpolate(), 50);
        DUE.is("its number", w.at(50, 0, 0), 3);
    }

    private static void twoObjects() {
        PolyWork v = new PolyWork();
        PolyWork w = new PolyWork();
        v.prime(5);
        w.prime(7);
        DUE.is("first", v.constant(6), 0);
        DUE.is("second", w.constant(6), 0);
        DUE.is("first", v.at(0, 0, 0), 1);
        DUE.is("second", w.at(0, 0, 0), 6);
        v.variable(0);
        v.factor(1);
        v.point(1, 1);
        DUE.is("the second has no FACTORS", w.told(3), -1);
        DUE.is("the second has no points", w.point(1, 1), 1);
        DUE.is("the second has no x", w.at(1, 1, 0), -1);
    }
}
