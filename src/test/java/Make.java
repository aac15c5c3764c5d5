/** Short ways to POLYNOMIALS and to states of an object, for the tests of the boundary cases. */
final class Make {
    static final int LEAST = Integer.MIN_VALUE;
    static final int MOST = Integer.MAX_VALUE;

    private Make() {
    }

    static PolyWork field(int p) {
        PolyWork w = new PolyWork();
        w.prime(p);
        return w;
    }

    /** A new one with these numbers at x^0, x^1 ..; it needs a second PLACE while it grows. */
    static int plain(PolyWork w, long... numbers) {
        long[][] terms = new long[numbers.length][];
        for (int i = 0; i < numbers.length; i++) {
            terms[i] = new long[] {numbers[i], i, 0};
        }
        return whole(w, terms);
    }

    /** A new one of terms c x^i y^j, each told as {c, i, j}. */
    static int whole(PolyWork w, long[]... terms) {
        int a = w.constant(0);
        for (long[] term : terms) {
            if (term[0] != 0) {
                int b = w.plus(a, term[0], (int) term[1], (int) term[2]);
                w.drop(a);
                a = b;
            }
        }
        return a;
    }

    static int term(PolyWork w, long c, int i, int j) {
        return whole(w, new long[] {c, i, j});
    }

    /** Takes PLACES until so many are free. */
    static void fill(PolyWork w, int free) {
        int taken = 0;
        for (int a = 0; a < 100; a++) {
            taken += w.degree(a, 0) == -2 ? 0 : 1;
        }
        for (int k = taken; k < 100 - free; k++) {
            w.constant(k);
        }
    }
}
