import java.util.Random;

/** Promises 20 and 21: points and their INTERPOLATION. */
public final class PointsTest {
    private static final Due DUE = new Due("PointsTest");

    public static void main(String[] args) {
        few();
        refusals();
        fullPlaces();
        many();
        DUE.end();
    }

    private static void few() {
        Pair w = new Pair(DUE, 7);
        DUE.is("without points", w.work.degree(w.interpolate(), 0), -1);
        w.point(3, 5);
        int a = w.interpolate();
        DUE.is("one point: DEGREE", w.work.degree(a, 0), 0);
        DUE.is("one point", w.work.at(a, 0, 0), 5);
        w.point(0, 0);
        w.point(1, 0);
        DUE.is("values 0", w.work.degree(w.interpolate(), 0), -1);
        w.point(-1, 2);
        w.point(8, Long.MIN_VALUE);
        w.point(Long.MAX_VALUE, -1);
        int b = w.interpolate();
        DUE.is("at -1", w.work.value(b, 6, 0), 2);
        DUE.is("at 1", w.work.value(b, 1, 0), Math.floorMod(Long.MIN_VALUE, 7L));
        for (int x = 0; x < 7; x++) {
            w.point(x, 3 * x * x + 1);
        }
        int c = w.interpolate();
        DUE.is("the least DEGREE", w.work.degree(c, 0), 2);
        DUE.is("it is PLAIN", w.work.degree(c, 1), 0);
    }

    private static void refusals() {
        PolyWork w = new PolyWork();
        DUE.is("point 0", w.point(0, 1), 1);
        DUE.is("point 0 again", w.point(2, 0), -1);
        DUE.is("point 1", w.point(-1, 1), 2);
        DUE.is("no more in the field of 2", w.point(5, 0), -1);
        int a = w.interpolate();
        DUE.is("a refused point changes nothing", w.at(a, 0, 0), 1);
        DUE.is("a refused point changes nothing", w.at(a, 1, 0), 0);
        DUE.is("no points any more", w.point(0, 0), 1);

        w.prime(65521);
        for (int k = 0; k < 41; k++) {
            DUE.is("point " + k, w.point(k * k, k), k + 1);
        }
        DUE.is("41 are there", w.point(65000, 1), -1);
        DUE.is("41 are there, same x", w.point(0, 1), -1);
        int b = w.interpolate();
        for (int k = 0; k < 41; k++) {
            DUE.is("value at " + k * k, w.value(b, k * k, 5), k);
        }
        DUE.is("no points any more", w.point(65000, 1), 1);
        DUE.is("prime", w.prime(41), true);
        for (int k = 0; k < 41; k++) {
            DUE.is("point " + k, w.point(k, k * k), k + 1);
        }
        DUE.is("every x is there", w.point(41, 1), -1);
        int c = w.interpolate();
        DUE.is("x^2", w.degree(c, 0), 2);
        DUE.is("x^2", w.at(c, 2, 0), 1);
    }

    private static void fullPlaces() {
        PolyWork w = new PolyWork();
        for (int k = 0; k < 100; k++) {
            w.constant(k);
        }
        w.point(0, 1);
        w.point(1, 1);
        DUE.is("no PLACE is free", w.interpolate(), -5);
        DUE.is("no points any more", w.point(1, 0), 1);
        w.drop(99);
        DUE.is("a PLACE is free", w.interpolate(), 99);
        DUE.is("of the one point", w.degree(99, 0), -1);
    }

    private static void many() {
        Random random = new Random(4);
        for (int p : new int[] {2, 3, 5, 31, 43, 997, 65519, 65521}) {
            Pair w = new Pair(DUE, p);
            for (int round = 0; round < 12; round++) {
                int count = random.nextInt(60);
                for (int k = 0; k < count; k++) {
                    w.point(random.nextLong(), random.nextLong());
                }
                w.interpolate();
            }
        }
    }
}
