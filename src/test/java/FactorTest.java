import java.util.Random;

/** Promises 13 to 19: FACTORS, SQUARE-FREE PARTS, ROOTS. */
public final class FactorTest {
    private static final Due DUE = new Due("FactorTest");
    private static final int[] PRIMES = {2, 3, 5, 7, 13, 37, 41, 43, 251, 65519, 65521};

    public static void main(String[] args) {
        told();
        refusals();
        stay();
        powersOfX();
        pthPowers();
        allLines();
        binomials();
        products();
        dense();
        DUE.end();
    }

    private static void told() {
        Pair w = new Pair(DUE, 5);
        // 3 x (x + 1)^2 (x + 4) (x^2 + 2)^2
        int square = w.row(2, 0, 1);
        int line = w.row(1, 1);
        int a = w.apply(2, w.apply(2, square, square), w.apply(2, line, line));
        a = w.apply(2, w.apply(2, a, w.row(0, 3)), w.row(4, 1));
        DUE.is("how many", w.factor(a), 4);
        DUE.is("LEADING", w.work.told(0), 3);
        DUE.is("parts", w.work.told(1), 2);
        DUE.is("roots", w.work.told(2), 3);
        DUE.is("together", w.work.told(3), 6);
        DUE.is("first: x", w.work.factorAt(0, 0), 0);
        DUE.is("second: x + 1", w.work.factorAt(1, 0), 1);
        DUE.is("second twice", w.work.factorOf(1, 0), 2);
        DUE.is("third: x + 4", w.work.factorAt(2, 0), 4);
        DUE.is("fourth: DEGREE", w.work.factorOf(3, 1), 2);
        DUE.is("fourth: x^40", w.work.factorAt(3, 40), 0);
        DUE.is("root 0", w.work.root(0), 0);
        DUE.is("root 1", w.work.root(1), 1);
        DUE.is("root 2", w.work.root(2), 4);
        DUE.is("root 3", w.work.root(3), -1);
        DUE.is("part of 1: x^2 + 4 x", w.work.part(0, 3), 4);
        DUE.is("part of 2: k", w.work.part(1, 0), 2);
        DUE.is("part of 2: DEGREE", w.work.part(1, 1), 3);
        DUE.is("part of 2: x^40", w.work.part(1, 42), 0);
        DUE.is("take", w.work.same(w.take(3), square), true);
        DUE.is("take none", w.take(4), -1);
        DUE.is("take none", w.take(-1), -1);
    }

    private static void refusals() {
        Pair w = new Pair(DUE, 3);
        int y = w.grid(new long[][] {{0, 1}});
        int zero = w.row();
        int two = w.row(2);
        DUE.is("no PLACE", w.factor(99), -1);
        DUE.is("no PLACE", w.factor(-1), -1);
        DUE.is("no PLACE", w.factor(100), -1);
        DUE.is("not PLAIN", w.factor(y), -2);
        DUE.is("of 0", w.factor(zero), -3);
        DUE.is("of 2", w.factor(two), -3);
    }

    private static void stay() {
        Pair w = new Pair(DUE, 3);
        int a = w.row(2, 0, 1);
        int y = w.grid(new long[][] {{0, 1}});
        int two = w.row(2);
        DUE.is("x^2 - 1", w.factor(a), 2);
        DUE.is("refused", w.factor(y), -2);
        DUE.is("refused", w.factor(two), -3);
        w.drop(a);
        DUE.is("refused", w.factor(a), -1);
        w.row(1, 1, 1);
        w.told();
        DUE.is("still told", w.work.told(3), 2);
        DUE.is("still told", w.work.factorAt(1, 0), 2);
        w.take(1);
        w.told();
        DUE.is("the next one", w.factor(w.row(1, 1)), 1);
        DUE.is("the first one's are gone", w.work.factorOf(1, 0), -1);
        DUE.is("the first one's are gone", w.work.root(1), -1);
    }

    private static void powersOfX() {
        for (int p : PRIMES) {
            Pair w = new Pair(DUE, p);
            for (int n = 1; n <= 40; n++) {
                long[] numbers = new long[n + 1];
                numbers[n] = p - 1;
                int a = w.row(numbers);
                DUE.is("x^" + n, w.factor(a), 1);
                DUE.is("often", w.work.factorOf(0, 0), n);
                w.drop(a);
            }
        }
    }

    /** a b^2 c^4 d^8 e^16 and their like: roots are taken again and again. */
    private static void pthPowers() {
        for (int p : new int[] {2, 3, 5, 7, 13, 37}) {
            Pair w = new Pair(DUE, p);
            Random random = new Random(p);
            for (int round = 0; round < 40; round++) {
                int a = w.row(1 + random.nextInt(p - 1 == 0 ? 1 : p - 1));
                for (int k = 0; k < 8; k++) {
                    int b = w.randomGrid(random, 1 + random.nextInt(3), 0, p);
                    int often = k == 0 ? p : random.nextInt(3) == 0 ? p * p : 1 + random.nextInt(2 * p);
                    for (int n = 0; n < often; n++) {
                        int c = w.work.degree(a, 0) + w.work.degree(b, 0) <= 40 ? w.apply(2, a, b) : a;
                        if (c != a) {
                            w.drop(a);
                        }
                        a = c;
                    }
                    w.drop(b);
                }
                w.factor(a);
                w.drop(a);
            }
        }
        Pair w = new Pair(DUE, 2);
        int x = w.row(0, 1);
        int b = w.row(1, 1);
        int c = w.row(1, 1, 1);
        int a = w.apply(2, x, w.apply(2, b, b));
        int c2 = w.apply(2, c, c);
        a = w.apply(2, a, w.apply(2, c2, c2));
        int d = w.row(1, 1, 0, 1);
        int d2 = w.apply(2, d, d);
        int d4 = w.apply(2, d2, d2);
        a = w.apply(2, a, w.apply(2, d4, d4));
        DUE.is("x (x + 1)^2 (x^2 + x + 1)^4 (x^3 + x + 1)^8", w.factor(a), 4);
        DUE.is("parts", w.work.told(1), 4);
        DUE.is("last k", w.work.part(3, 0), 8);
        // x^k for k 1 .. 8 of different lines: the most parts there can be.
        Pair v = new Pair(DUE, 65521);
        a = v.row(1);
        for (int k = 1; k <= 8; k++) {
            for (int n = 0; n < k; n++) {
                a = v.apply(2, a, v.row(k * 7, 1));
            }
        }
        DUE.is("eight lines", v.factor(a), 8);
        DUE.is("eight parts", v.work.told(1), 8);
    }

    /** Products of forty different lines, where there are so many, and of every line else. */
    private static void allLines() {
        for (int p : PRIMES) {
            Pair w = new Pair(DUE, p);
            int a = w.row(p - 1);
            int lines = Math.min(p, 40);
            for (int k = 0; k < lines; k++) {
                int line = w.row(p > 10000 ? k * 1637L : k, 1);
                int b = w.apply(2, a, line);
                w.drop(a);
                w.drop(line);
                a = b;
            }
            DUE.is("lines", w.factor(a), lines);
            DUE.is("roots", w.work.told(2), lines);
        }
    }

    private static void binomials() {
        for (int p : PRIMES) {
            Pair w = new Pair(DUE, p);
            for (int n = 2; n <= 40; n += n < 36 ? 3 : 1) {
                long[] numbers = new long[n + 1];
                numbers[0] = p - 1;
                numbers[n] = 1;
                int a = w.row(numbers);
                w.factor(a);
                w.drop(a);
                numbers[0] = 0;
                numbers[1] = p - 1;
                int b = w.row(numbers);
                w.factor(b);
                w.drop(b);
            }
        }
    }

    private static void products() {
        Random random = new Random(11);
        for (int round = 0; round < 250; round++) {
            int p = PRIMES[random.nextInt(PRIMES.length)];
            Pair w = new Pair(DUE, p);
            int most = 1 + random.nextInt(8);
            int a = w.row(1 + random.nextInt(p - 1 == 0 ? 1 : p - 1));
            for (int k = 0; k < 12; k++) {
                int b = w.randomGrid(random, 1 + random.nextInt(most), 0, p);
                for (int n = random.nextInt(3); n >= 0; n--) {
                    if (w.work.degree(a, 0) + w.work.degree(b, 0) <= 40) {
                        a = w.apply(2, a, b);
                    }
                }
            }
            w.factor(a);
            for (int i = 0; i < w.work.told(3) && i < 10; i++) {
                w.take(i);
            }
        }
    }

    private static void dense() {
        Random random = new Random(12);
        for (int round = 0; round < 120; round++) {
            int p = PRIMES[random.nextInt(PRIMES.length)];
            Pair w = new Pair(DUE, p);
            w.factor(w.randomGrid(random, 1 + random.nextInt(40), 0, p));
        }
    }
}
