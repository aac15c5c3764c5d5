import java.util.Random;

/** All promises: runs of calls, right and wrong ones, on PolyWork and on Model, whose answers have to be the same. */
public final class RandomRunsTest {
    private static final int[] PRIMES = {2, 3, 5, 7, 11, 13, 37, 41, 43, 257, 4099, 32749, 65519, 65521};
    private static final int[] ODD_INTS = {-1, -2, 40, 41, 42, 43, 6, 7, 99, 100, Integer.MAX_VALUE, Integer.MIN_VALUE};
    private static final long[] ODD_LONGS = {0, 1, -1, Long.MAX_VALUE, Long.MIN_VALUE, 1L << 32, -(1L << 31)};
    private static final Due DUE = new Due("RandomRunsTest");

    private final Random random;
    private final Pair pair;
    private int latest;

    private RandomRunsTest(int seed) {
        random = new Random(seed);
        pair = new Pair(DUE, PRIMES[random.nextInt(PRIMES.length)]);
    }

    /** How many runs, and the first one's number, may be told. */
    public static void main(String[] args) {
        int runs = args.length > 0 ? Integer.parseInt(args[0]) : 150;
        int from = args.length > 1 ? Integer.parseInt(args[1]) : 0;
        for (int seed = from; seed < from + runs; seed++) {
            DUE.name("RandomRunsTest, run " + seed);
            new RandomRunsTest(seed).run();
        }
        DUE.name("RandomRunsTest");
        DUE.end();
    }

    private void run() {
        boolean dropping = random.nextInt(3) > 0;
        for (int call = 0; call < 500; call++) {
            step();
            if (dropping && latest > 60) {
                pair.drop(random.nextInt(60));
            }
        }
    }

    private int place() {
        int kind = random.nextInt(20);
        if (kind == 0) {
            return ODD_INTS[random.nextInt(ODD_INTS.length)];
        }
        return kind < 12 ? Math.max(0, latest - random.nextInt(6)) : random.nextInt(Math.max(1, latest + 1));
    }

    private int small(int most) {
        return random.nextInt(25) == 0 ? ODD_INTS[random.nextInt(ODD_INTS.length)] : random.nextInt(most);
    }

    private long number() {
        int kind = random.nextInt(10);
        if (kind == 0) {
            return ODD_LONGS[random.nextInt(ODD_LONGS.length)];
        }
        return kind < 5 ? random.nextInt(9) - 4 : random.nextLong();
    }

    private void came(int place) {
        latest = place < 0 ? latest : place;
    }

    private void step() {
        int a = place();
        int b = place();
        int kind = random.nextInt(60);
        if (kind < 22) {
            came(pair.apply(small(14), a, b));
        } else if (kind < 34) {
            int i = small(random.nextInt(4) == 0 ? 42 : 7);
            came(pair.plus(a, number(), i, random.nextInt(3) > 0 ? 0 : small(4)));
        } else if (kind < 36) {
            came(pair.power(a, number(), b));
        } else if (kind < 39) {
            came(pair.variable(small(2)));
        } else if (kind < 40) {
            came(pair.constant(number()));
        } else if (kind < 46) {
            pair.factor(a);
        } else if (kind < 47) {
            came(pair.take(small(3)));
        } else if (kind < 54) {
            for (int k = random.nextInt(6); k >= 0; k--) {
                pair.point(number(), number());
            }
        } else if (kind < 55) {
            came(pair.interpolate());
        } else if (kind < 59) {
            pair.same(a, b);
            pair.value(a, number(), number());
            pair.at(a, small(41), small(7));
            pair.degree(a, small(3));
        } else if (random.nextInt(20) == 0) {
            pair.prime(PRIMES[random.nextInt(PRIMES.length)]);
            latest = 0;
        } else {
            pair.prime(1 - random.nextInt(5));
        }
    }
}
