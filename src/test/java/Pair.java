import java.util.Random;

/** A PolyWork and a Model that get the same calls. */
final class Pair {
    final PolyWork work = new PolyWork();
    final Model model = new Model();
    private final Due due;

    Pair(Due due, int p) {
        this.due = due;
        prime(p);
    }

    void prime(int p) {
        due.is("prime " + p, work.prime(p), model.prime(p));
    }

    int constant(long c) {
        return came("constant " + c, work.constant(c), model.constant(c));
    }

    int variable(int which) {
        return came("variable " + which, work.variable(which), model.variable(which));
    }

    int plus(int a, long c, int i, int j) {
        return came("plus " + a + " " + c + " " + i + " " + j, work.plus(a, c, i, j), model.plus(a, c, i, j));
    }

    /** A new one with numbers like these at x^0, x^1 ..; its PLACE. */
    int row(long... numbers) {
        long[][] column = new long[numbers.length][1];
        for (int i = 0; i < numbers.length; i++) {
            column[i][0] = numbers[i];
        }
        return grid(column);
    }

    /** A new one with numbers[i][j] at x^i y^j; its PLACE. */
    int grid(long[][] numbers) {
        int a = constant(0);
        for (int i = 0; i < numbers.length; i++) {
            for (int j = 0; j < numbers[i].length; j++) {
                if (numbers[i][j] != 0) {
                    int b = plus(a, numbers[i][j], i, j);
                    drop(a);
                    a = b;
                }
            }
        }
        return a;
    }

    int randomGrid(Random random, int topX, int topY, int below) {
        long[][] numbers = new long[topX + 1][topY + 1];
        for (long[] row : numbers) {
            for (int j = 0; j < row.length; j++) {
                row[j] = random.nextInt(below);
            }
        }
        numbers[topX][random.nextInt(topY + 1)] = 1;
        numbers[random.nextInt(topX + 1)][topY] = 1;
        return grid(numbers);
    }

    int apply(int act, int a, int b) {
        return came("apply " + act + " " + a + " " + b, work.apply(act, a, b), model.apply(act, a, b));
    }

    int power(int a, long n, int m) {
        return came("power " + a + " " + n + " " + m, work.power(a, n, m), model.power(a, n, m));
    }

    int take(int i) {
        return came("take " + i, work.take(i), model.take(i));
    }

    void point(long x, long v) {
        due.is("point " + x + " " + v, work.point(x, v), model.point(x, v));
    }

    int interpolate() {
        return came("interpolate", work.interpolate(), model.interpolate());
    }

    void drop(int a) {
        due.is("drop " + a, work.drop(a), model.drop(a));
    }

    void same(int a, int b) {
        due.is("same " + a + " " + b, work.same(a, b), model.same(a, b));
    }

    void value(int a, long x, long y) {
        due.is("value " + a + " " + x + " " + y, work.value(a, x, y), model.value(a, x, y));
    }

    void at(int a, int i, int j) {
        due.is("at " + a + " " + i + " " + j, work.at(a, i, j), model.at(a, i, j));
    }

    void degree(int a, int which) {
        due.is("degree " + a + " " + which, work.degree(a, which), model.degree(a, which));
    }

    /** An answer that is a PLACE: both have to have it, with the same numbers there. */
    private int came(String call, int got, int want) {
        due.is(call, got, want);
        if (got >= 0) {
            degree(got, 0);
            degree(got, 1);
        }
        for (int i = 0; got >= 0 && i <= 40; i++) {
            for (int j = 0; j <= 6; j++) {
                due.is(call + ": at " + i + " " + j, work.at(got, i, j), model.at(got, i, j));
            }
        }
        return got;
    }

    /** factor() and all that it tells, with indices that are off at both ends. */
    int factor(int a) {
        int count = work.factor(a);
        due.is("factor " + a, count, model.factor(a));
        told();
        return count;
    }

    void told() {
        for (int what = -1; what <= 4; what++) {
            due.is("told " + what, work.told(what), model.told(what));
        }
        for (int i = -1; i <= Math.max(0, model.told(2)); i++) {
            due.is("root " + i, work.root(i), model.root(i));
        }
        for (int i = -1; i <= 0 || model.factorOf(i - 1, 0) >= 0; i++) {
            for (int k = -1; k <= 41; k++) {
                due.is("factorAt " + i + " " + k, work.factorAt(i, k), model.factorAt(i, k));
            }
            for (int what = -1; what <= 2; what++) {
                due.is("factorOf " + i + " " + what, work.factorOf(i, what), model.factorOf(i, what));
            }
        }
        for (int i = -1; i <= Math.max(0, model.told(1)); i++) {
            for (int what = -1; what <= 43; what++) {
                due.is("part " + i + " " + what, work.part(i, what), model.part(i, what));
            }
        }
    }
}
