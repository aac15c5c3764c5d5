import java.util.Random;

/** Promises 5 and 7: every act and its refusals, powers modulo one. */
public final class ActsTest {
    private static final Due DUE = new Due("ActsTest");
    private static final int[] PRIMES = {2, 3, 7, 41, 65519, 65521};

    public static void main(String[] args) {
        order();
        sums();
        products();
        compositions();
        derivatives();
        divisions();
        divisors();
        inverses();
        resultantsByY();
        resultantsByX();
        powers();
        bigResultantsByY();
        manyPlain();
        manyWhole();
        DUE.end();
    }

    /** The first refusal of several is told; b is not looked at where the act has none. */
    private static void order() {
        Pair w = new Pair(DUE, 7);
        int zero = w.row();
        int y = w.grid(new long[][] {{0, 1}});
        int square = w.row(0, 0, 1);
        int free = w.work.constant(1);
        w.work.drop(free);
        for (int act : new int[] {-1, 14, Integer.MIN_VALUE, Integer.MAX_VALUE}) {
            DUE.is("no such act, no PLACES", w.work.apply(act, -1, 100), -2);
            DUE.is("no such act", w.work.apply(act, 0, 0), -2);
        }
        for (int act = 0; act <= 13; act++) {
            boolean alone = act == 3 || act == 6 || act == 7;
            DUE.is("no PLACE a of " + act, w.work.apply(act, free, zero), -1);
            DUE.is("no PLACE a of " + act, w.work.apply(act, -1, y), -1);
            DUE.is("no PLACE a of " + act, w.work.apply(act, 100, y), -1);
            for (int off : new int[] {free, 99, 100, -1, Integer.MIN_VALUE, Integer.MAX_VALUE}) {
                int place = w.work.apply(act, y, off);
                DUE.is("no PLACE b of " + act, place, alone ? free : -1);
                w.work.drop(place);
            }
        }
        for (int act : new int[] {8, 9, 10, 11, 13}) {
            DUE.is("a not PLAIN of " + act, w.work.apply(act, y, zero), -2);
            DUE.is("b not PLAIN of " + act, w.work.apply(act, zero, y), -2);
        }
        DUE.is("12 of PLAIN ones", w.work.apply(12, square, y), -2);
        DUE.is("12 of PLAIN ones", w.work.apply(12, y, square), -2);
        DUE.is("12 of 0", w.work.apply(12, zero, y), -2);
        DUE.is("nothing has come", w.work.constant(1), free);
    }

    private static void sums() {
        Pair w = new Pair(DUE, 5);
        int a = w.grid(new long[][] {{1, 2, 3}, {4, 0, 0, 0, 0, 0, 4}});
        int b = w.grid(new long[][] {{4, 4, 4}, {1, 0, 0, 0, 0, 0, 1}, {3}});
        int c = w.apply(0, a, b);
        DUE.is("sum", w.work.at(c, 0, 1), 1);
        DUE.is("sum goes to 0", w.work.degree(c, 1), 2);
        int d = w.apply(1, a, b);
        DUE.is("difference", w.work.at(d, 0, 0), 2);
        DUE.is("difference", w.work.at(d, 2, 0), 2);
        DUE.is("a - a", w.work.degree(w.apply(1, a, a), 0), -1);
        int e = w.apply(3, a, -5);
        DUE.is("- a", w.work.at(e, 0, 0), 4);
        DUE.is("- 0 is 0", w.work.at(e, 5, 0), 0);
        DUE.is("a - a by 0", w.work.degree(w.apply(0, a, e), 0), -1);
    }

    private static void products() {
        Pair w = new Pair(DUE, 65521);
        int a = w.grid(new long[][] {{65520, 65520, 65520, 65520}});
        int b = w.apply(2, a, a);
        DUE.is("all of y", w.work.degree(b, 1), 6);
        DUE.is("y^3", w.work.at(b, 0, 3), 4);
        DUE.is("y^8", w.apply(2, b, w.grid(new long[][] {{0, 1}})), -4);
        long[] most = new long[21];
        java.util.Arrays.fill(most, 65520);
        int c = w.row(most);
        int d = w.apply(2, c, c);
        DUE.is("x^40", w.work.degree(d, 0), 40);
        DUE.is("x^20", w.work.at(d, 20, 0), 21);
        DUE.is("x^41", w.apply(2, d, w.row(0, 1)), -4);
        DUE.is("times 0", w.work.degree(w.apply(2, d, w.row()), 0), -1);
        DUE.is("0 times", w.work.degree(w.apply(2, w.row(), d), 0), -1);
        int e = w.apply(2, c, b);
        DUE.is("DEGREES at their top", w.work.degree(w.apply(2, e, c), 0), 40);
        DUE.is("times a number", w.work.at(w.apply(2, d, w.row(2)), 40, 0), 2);
    }

    private static void compositions() {
        Pair w = new Pair(DUE, 7);
        int x = w.row(0, 1);
        int y = w.grid(new long[][] {{0, 1}});
        int xy = w.grid(new long[][] {{0}, {0, 1}});
        int zero = w.row();
        int a = w.grid(new long[][] {{1, 2, 3}, {4, 5}, {6, 0, 1}});
        DUE.is("x for x", w.work.same(w.apply(4, a, x), a), true);
        DUE.is("y for y", w.work.same(w.apply(5, a, y), a), true);
        DUE.is("0 for x", w.work.degree(w.apply(4, a, zero), 0), 0);
        DUE.is("0 for y", w.work.degree(w.apply(5, a, zero), 1), 0);
        DUE.is("in 0", w.work.degree(w.apply(4, zero, a), 0), -1);
        DUE.is("in 0", w.work.degree(w.apply(5, zero, a), 0), -1);
        int swapped = w.apply(4, a, y);
        DUE.is("y for x: y^4", w.work.at(swapped, 0, 4), 1);
        DUE.is("y for x: y", w.work.at(swapped, 0, 1), 6);
        int both = w.apply(5, a, x);
        DUE.is("x for y: x^4", w.work.at(both, 4, 0), 1);
        w.apply(4, a, xy);
        w.apply(5, a, xy);
        int x40 = w.grid(new long[][] {{3}, {1}});
        int top = w.row(0, 0, 0, 0, 0, 0, 0, 0, 0, 0, 0, 0, 0, 0, 0, 0, 0, 0, 0, 0, 1);
        int x2 = w.row(0, 0, 1);
        DUE.is("x^2 in x^20", w.work.degree(w.apply(4, top, x2), 0), 40);
        DUE.is("x^3 in x^20", w.apply(4, top, w.row(0, 0, 0, 1)), -4);
        DUE.is("x + 3 in x^20", w.work.degree(w.apply(4, top, x40), 0), 20);
        DUE.is("y^2 in y^3", w.work.degree(w.apply(5, w.grid(new long[][] {{0, 0, 0, 1}}),
            w.grid(new long[][] {{0, 0, 1}})), 1), 6);
        DUE.is("y^2 in y^4", w.apply(5, w.grid(new long[][] {{0, 0, 0, 0, 1}}),
            w.grid(new long[][] {{0, 0, 1}})), -4);
        DUE.is("x^7 in x^5 y^6, for y", w.apply(5, w.grid(new long[][] {{}, {}, {}, {}, {}, {0, 0, 0, 0, 0, 0, 1}}),
            w.row(0, 0, 0, 0, 0, 0, 1)), -4);
        DUE.is("a number in x^40", w.work.at(w.apply(4, w.apply(2, top, top), w.row(3)), 0, 0), 4);
    }

    private static void derivatives() {
        Pair w = new Pair(DUE, 3);
        int a = w.grid(new long[][] {{1, 1, 1, 1, 1, 1, 1}, {1, 1, 1, 1, 1, 1, 1}, {1, 2}, {1, 2}, {2, 1}});
        int byX = w.apply(6, a, 77);
        int byY = w.apply(7, a, -77);
        DUE.is("x^3 goes", w.work.at(byX, 2, 0), 0);
        DUE.is("x^4", w.work.at(byX, 3, 0), 2);
        DUE.is("y^6 goes", w.work.degree(byY, 1), 4);
        DUE.is("y^5", w.work.at(byY, 1, 4), 2);
        DUE.is("of x^3", w.work.degree(w.apply(6, w.row(2, 0, 0, 1), 0), 0), -1);
        DUE.is("of 0", w.work.degree(w.apply(6, w.row(), 0), 0), -1);
        DUE.is("of a PLAIN one by y", w.work.degree(w.apply(7, w.row(1, 1), 0), 0), -1);
    }

    private static void divisions() {
        Pair w = new Pair(DUE, 65519);
        int a = w.row(5, 4, 3, 2, 1, 9);
        int b = w.row(1, 7, 3);
        int q = w.apply(8, a, b);
        int r = w.apply(9, a, b);
        DUE.is("q b + r", w.work.same(w.apply(0, w.apply(2, q, b), r), a), true);
        DUE.is("the lesser by the greater", w.work.degree(w.apply(8, b, a), 0), -1);
        DUE.is("its rest", w.work.same(w.apply(9, b, a), b), true);
        DUE.is("by a number", w.work.degree(w.apply(8, a, w.row(7)), 0), 5);
        DUE.is("its rest", w.work.degree(w.apply(9, a, w.row(7)), 0), -1);
        DUE.is("0 by one", w.work.degree(w.apply(8, w.row(), b), 0), -1);
        DUE.is("by itself", w.work.at(w.apply(8, a, a), 0, 0), 1);
        DUE.is("by 0", w.apply(8, a, w.row()), -3);
        DUE.is("by 0", w.apply(9, w.row(), w.row()), -3);
    }

    private static void divisors() {
        Pair w = new Pair(DUE, 11);
        int a = w.row(6, 5, 1);
        int b = w.row(2, 3, 1);
        int c = w.apply(10, w.apply(2, a, w.row(5)), b);
        DUE.is("x + 2", w.work.at(c, 0, 0), 2);
        DUE.is("MONIC", w.work.at(c, 1, 0), 1);
        DUE.is("of 0 and 0", w.work.degree(w.apply(10, w.row(), w.row()), 0), -1);
        int d = w.row(4, 3);
        DUE.is("of one and 0", w.work.at(w.apply(10, d, w.row()), 1, 0), 1);
        DUE.is("of 0 and one", w.work.at(w.apply(10, w.row(), d), 0, 0), 4 * 4 % 11);
        DUE.is("of numbers", w.work.at(w.apply(10, w.row(7), w.row(5)), 0, 0), 1);
        DUE.is("of a number and one", w.work.degree(w.apply(10, w.row(7), a), 0), 0);
    }

    private static void inverses() {
        Pair w = new Pair(DUE, 13);
        int b = w.row(2, 0, 5, 1);
        DUE.is("of x", w.work.degree(w.apply(11, w.row(0, 1), b), 0), 2);
        DUE.is("of 5", w.work.at(w.apply(11, w.row(5), b), 0, 0), 8);
        int a = w.row(1, 2, 3, 4, 5, 6);
        int s = w.apply(11, a, b);
        int one = w.apply(9, w.apply(2, s, a), b);
        DUE.is("s a by b", w.work.same(one, w.row(1)), true);
        DUE.is("by a number", w.apply(11, a, w.row(5)), -3);
        DUE.is("by 0", w.apply(11, a, w.row()), -3);
        DUE.is("of 0", w.apply(11, w.row(), b), -3);
        DUE.is("of b", w.apply(11, b, b), -3);
        DUE.is("a common divisor", w.apply(11, w.row(1, 1), w.row(1, 2, 1)), -3);
        DUE.is("modulo x", w.work.at(w.apply(11, w.row(2, 9), w.row(0, 3)), 0, 0), 7);
    }

    private static void resultantsByY() {
        Pair w = new Pair(DUE, 65521);
        int a = w.grid(new long[][] {{3, 0, 1}, {0, 2}});
        int b = w.grid(new long[][] {{5, 7}, {1}});
        w.apply(12, a, b);
        w.apply(12, b, a);
        int odd = w.grid(new long[][] {{1, 1}});
        int odder = w.grid(new long[][] {{2, 3}});
        DUE.is("1 1, 3 2", w.work.at(w.apply(12, odd, odder), 0, 0), 65521 - 1);
        DUE.is("3 2, 1 1", w.work.at(w.apply(12, odder, odd), 0, 0), 1);
        DUE.is("of one with itself", w.work.degree(w.apply(12, a, a), 0), -1);
        int x6 = w.grid(new long[][] {{}, {}, {}, {}, {}, {}, {1, 1}});
        int x7 = w.grid(new long[][] {{}, {}, {}, {}, {}, {}, {}, {1, 1}});
        DUE.is("x^6", w.work.degree(w.apply(12, x6, odder), 0), 6);
        DUE.is("x^7", w.apply(12, x7, odder), -2);
        DUE.is("x^7", w.apply(12, odder, x7), -2);
        int high = w.grid(new long[][] {{1, 0, 0, 0, 1}, {}, {}, {}, {}, {}, {0, 1, 0, 0, 3}});
        int other = w.grid(new long[][] {{2, 0, 0, 1}, {}, {}, {}, {}, {}, {5, 0, 0, 2}});
        DUE.is("DEGREE 42", w.apply(12, high, other), -4);
        int less = w.grid(new long[][] {{2, 0, 0, 1}, {}, {}, {}, {}, {5, 0, 0, 2}});
        DUE.is("DEGREE 38", w.work.degree(w.apply(12, high, less), 0), 38);
        int fourth = w.grid(new long[][] {{1}, {}, {}, {}, {}, {}, {0, 0, 0, 0, 1}});
        int heavy = w.grid(new long[][] {{}, {}, {}, {}, {2, 0, 0, 0, 1}});
        DUE.is("DEGREE 40", w.work.degree(w.apply(12, fourth, heavy), 0), 40);
        int heavier = w.grid(new long[][] {{}, {}, {}, {}, {}, {2, 0, 0, 0, 1}});
        DUE.is("DEGREE 44", w.apply(12, fourth, heavier), -4);
        // The first column's only number is b's: rows have to change.
        int lone = w.grid(new long[][] {{0, 0, 0}, {0, 0, 0}, {0, 0, 1}});
        w.apply(12, lone, w.grid(new long[][] {{1, 0, 1}}));
        int gaps = w.grid(new long[][] {{1, 0, 0, 0, 0, 0, 1}});
        w.apply(12, gaps, w.grid(new long[][] {{0, 1, 0, 0, 0, 1}, {1}}));
    }

    private static void bigResultantsByY() {
        Random random = new Random(3);
        int high = 0;
        for (int round = 0; round < 60; round++) {
            int p = PRIMES[random.nextInt(PRIMES.length)];
            Pair w = new Pair(DUE, p);
            int below = random.nextInt(3) == 0 ? 2 : p;
            int topY = 1 + random.nextInt(6);
            int a = w.randomGrid(random, random.nextInt(7), topY, below);
            int b = w.randomGrid(random, random.nextInt(7), 1 + random.nextInt(6), below);
            high += w.apply(12, a, b) == -4 ? 1 : 0;
            int line = w.randomGrid(random, random.nextInt(2), 1, below);
            int c = w.apply(2, w.randomGrid(random, 2, 2, below), line);
            int d = w.apply(2, w.randomGrid(random, 2, 2, below), line);
            DUE.is("a common divisor with y", w.work.degree(w.apply(12, c, d), 0), -1);
        }
        Pair w = new Pair(DUE, 65521);
        w.apply(12, w.randomGrid(random, 6, 6, 65521), w.randomGrid(random, 6, 6, 65521));
        w.apply(12, w.randomGrid(random, 3, 6, 65521), w.randomGrid(random, 3, 6, 65521));
        DUE.is("some are too high", high > 0, true);
    }

    private static void resultantsByX() {
        Pair w = new Pair(DUE, 101);
        DUE.is("of numbers", w.work.at(w.apply(13, w.row(5), w.row(7)), 0, 0), 1);
        DUE.is("of a number and one", w.work.at(w.apply(13, w.row(5), w.row(7, 1, 1)), 0, 0), 25);
        DUE.is("of one and a number", w.work.at(w.apply(13, w.row(7, 1, 1, 1), w.row(5)), 0, 0), 125 - 101);
        DUE.is("x - 2, x - 5", w.work.at(w.apply(13, w.row(-2, 1), w.row(-5, 1)), 0, 0), 101 - 3);
        DUE.is("x - 5, x - 2", w.work.at(w.apply(13, w.row(-5, 1), w.row(-2, 1)), 0, 0), 3);
        DUE.is("a common root", w.work.degree(w.apply(13, w.row(-5, 1), w.row(-25, 0, 1)), 0), -1);
        DUE.is("of 0", w.apply(13, w.row(), w.row(5)), -3);
        DUE.is("of 0", w.apply(13, w.row(5), w.row()), -3);
        DUE.is("of 0 and 0", w.apply(13, w.row(), w.row()), -3);
    }

    private static void powers() {
        Pair w = new Pair(DUE, 65521);
        int x = w.row(0, 1);
        int m = w.row(3, 1, 4, 1, 5);
        int y = w.grid(new long[][] {{0, 1}});
        int zero = w.row();
        int five = w.row(5);
        long[] all = {0, 1, 2, 3, 4, 5, 65520, 65521, 65522, 1L << 31, 1L << 32, 1L << 62, Long.MAX_VALUE};
        for (long n : all) {
            w.drop(w.power(x, n, m));
            w.drop(w.power(m, n, w.row(1, 2, 3)));
            w.drop(w.power(zero, n, m));
            w.drop(w.power(five, n, x));
        }
        DUE.is("0^0", w.work.at(w.power(zero, 0, m), 0, 0), 1);
        DUE.is("0^1", w.work.degree(w.power(zero, 1, m), 0), -1);
        DUE.is("m^0 by m", w.work.at(w.power(m, 0, m), 0, 0), 1);
        DUE.is("n below 0", w.power(x, -1, m), -2);
        DUE.is("n below 0, m 0", w.power(x, Long.MIN_VALUE, zero), -2);
        DUE.is("y", w.power(y, 1, m), -2);
        DUE.is("by y", w.power(x, 1, y), -2);
        DUE.is("by 0", w.power(x, 1, zero), -3);
        DUE.is("by 5", w.power(x, 0, five), -3);
        DUE.is("no PLACE", w.power(99, -1, y), -1);
        DUE.is("no PLACE", w.power(y, -1, 99), -1);
    }

    private static void manyPlain() {
        Random random = new Random(8);
        for (int round = 0; round < 150; round++) {
            int p = PRIMES[random.nextInt(PRIMES.length)];
            Pair w = new Pair(DUE, p);
            int common = w.randomGrid(random, random.nextInt(10), 0, p);
            int a = w.apply(2, common, w.randomGrid(random, random.nextInt(31), 0, p));
            int b = w.apply(2, common, w.randomGrid(random, random.nextInt(31), 0, p));
            int c = w.randomGrid(random, random.nextInt(41), 0, p);
            int d = w.randomGrid(random, random.nextInt(41), 0, p);
            for (int act = 8; act <= 13; act++) {
                w.apply(act, a, b);
                w.apply(act, c, d);
            }
            w.power(a, random.nextLong() >>> 1, c);
            w.power(d, random.nextInt(100), b);
        }
    }

    private static void manyWhole() {
        Random random = new Random(9);
        for (int round = 0; round < 150; round++) {
            int p = PRIMES[random.nextInt(PRIMES.length)];
            Pair w = new Pair(DUE, p);
            int a = w.randomGrid(random, random.nextInt(12), random.nextInt(7), p);
            int b = w.randomGrid(random, random.nextInt(5), random.nextInt(3), p);
            int c = w.randomGrid(random, random.nextInt(7), 0, p);
            for (int act = 0; act <= 7; act++) {
                w.apply(act, a, b);
                w.apply(act, a, c);
                w.apply(act, b, a);
            }
        }
    }
}
