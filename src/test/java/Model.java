import java.util.ArrayList;
import java.util.List;
import java.util.Map;
import java.util.Random;
import java.util.TreeMap;

/**
 * The document said over again, slowly and in other ways than PolyWork: maps of numbers, determinants by their rows,
 * inverses by linear equations, factors by distinct and equal degrees.
 */
final class Model {
    private static final int FAR = 1000;

    private long p = 2;
    private final Map<Integer, TreeMap<Integer, Long>> places = new TreeMap<>();
    private final TreeMap<Long, Long> points = new TreeMap<>();
    private final Random random = new Random(5);
    private List<long[]> factors = new ArrayList<>();
    private List<Integer> times = new ArrayList<>();
    private final List<Long> roots = new ArrayList<>();
    private long leading;

    boolean prime(int n) {
        if (n < 2 || n > 65521) {
            return false;
        }
        for (int d = 2; d < n; d++) {
            if (n % d == 0) {
                return false;
            }
        }
        p = n;
        places.clear();
        points.clear();
        factors.clear();
        times.clear();
        roots.clear();
        return true;
    }

    int constant(long c) {
        return keep(put(new TreeMap<>(), 0, 0, c));
    }

    int variable(int which) {
        if (which == 0) {
            return keep(put(new TreeMap<>(), 1, 0, 1));
        }
        return which == 1 ? keep(put(new TreeMap<>(), 0, 1, 1)) : -2;
    }

    int apply(int act, int a, int b) {
        if (act < 0 || act > 13) {
            return -2;
        }
        TreeMap<Integer, Long> f = places.get(a);
        TreeMap<Integer, Long> g = act == 3 || act == 6 || act == 7 ? f : places.get(b);
        if (f == null || g == null) {
            return -1;
        }
        switch (act) {
            case 0: return keep(sum(f, g, 1));
            case 1: return keep(sum(f, g, p - 1));
            case 2: return keep(product(f, g));
            case 3: return keep(sum(new TreeMap<>(), f, p - 1));
            case 4: return keep(substitute(f, g, 0));
            case 5: return keep(substitute(f, g, 1));
            case 6: return keep(derivative(f, 0));
            case 7: return keep(derivative(f, 1));
            case 12: return resultantByY(f, g);
            default: break;
        }
        if (degreeOf(f, 1) > 0 || degreeOf(g, 1) > 0) {
            return -2;
        }
        return plainAct(act, row(f, 0), row(g, 0));
    }

    private int plainAct(int act, long[] f, long[] g) {
        if (act == 13) {
            return f.length == 0 || g.length == 0 ? -3 : constant(resultant(f, g));
        }
        if (act == 10) {
            return keep(whole(gcd(f, g)));
        }
        if (act == 11) {
            return g.length < 2 || gcd(f, g).length != 1 ? -3 : keep(whole(inverse(f, g)));
        }
        return g.length == 0 ? -3 : keep(whole(divide(f, g)[act - 8]));
    }

    int plus(int a, long c, int i, int j) {
        if (!places.containsKey(a)) {
            return -1;
        }
        if (i < 0 || i > 40 || j < 0 || j > 6) {
            return -4;
        }
        return keep(put(new TreeMap<>(places.get(a)), i, j, c));
    }

    int power(int a, long n, int m) {
        TreeMap<Integer, Long> f = places.get(a);
        TreeMap<Integer, Long> g = places.get(m);
        if (f == null || g == null) {
            return -1;
        }
        if (degreeOf(f, 1) > 0 || degreeOf(g, 1) > 0 || n < 0) {
            return -2;
        }
        return degreeOf(g, 0) < 1 ? -3 : keep(whole(power(row(f, 0), n, row(g, 0))));
    }

    int at(int a, int i, int j) {
        boolean there = places.containsKey(a) && i >= 0 && i <= 40 && j >= 0 && j <= 6;
        return there ? (int) (long) places.get(a).getOrDefault(i * FAR + j, 0L) : -1;
    }

    int degree(int a, int which) {
        return places.containsKey(a) && (which == 0 || which == 1) ? degreeOf(places.get(a), which) : -2;
    }

    int value(int a, long x, long y) {
        if (!places.containsKey(a)) {
            return -1;
        }
        long total = 0;
        for (Map.Entry<Integer, Long> e : places.get(a).entrySet()) {
            long one = e.getValue();
            for (int k = 0; k < e.getKey() / FAR; k++) {
                one = one * Math.floorMod(x, p) % p;
            }
            for (int k = 0; k < e.getKey() % FAR; k++) {
                one = one * Math.floorMod(y, p) % p;
            }
            total += one;
        }
        return (int) (total % p);
    }

    boolean same(int a, int b) {
        return places.containsKey(a) && places.get(a).equals(places.get(b));
    }

    boolean drop(int a) {
        return places.remove(a) != null;
    }

    int factor(int a) {
        TreeMap<Integer, Long> f = places.get(a);
        if (f == null) {
            return -1;
        }
        if (degreeOf(f, 1) > 0) {
            return -2;
        }
        if (degreeOf(f, 0) < 1) {
            return -3;
        }
        long[] row = row(f, 0);
        leading = row[row.length - 1];
        findFactors(row);
        roots.clear();
        for (long x = 0; x < p; x++) {
            long v = 0;
            for (int k = row.length - 1; k >= 0; k--) {
                v = (v * x + row[k]) % p;
            }
            if (v == 0) {
                roots.add(x);
            }
        }
        return factors.size();
    }

    int factorOf(int i, int what) {
        if (i < 0 || i >= factors.size() || what < 0 || what > 1) {
            return -1;
        }
        return what == 0 ? times.get(i) : factors.get(i).length - 1;
    }

    int factorAt(int i, int k) {
        return i < 0 || i >= factors.size() || k < 0 || k > 40 ? -1 : (int) number(factors.get(i), k);
    }

    int take(int i) {
        return i < 0 || i >= factors.size() ? -1 : keep(whole(factors.get(i)));
    }

    int told(int what) {
        if (factors.isEmpty() || what < 0 || what > 3) {
            return -1;
        }
        int together = 0;
        for (int often : times) {
            together += often;
        }
        return what == 0 ? (int) leading : what == 1 ? parts().size() : what == 2 ? roots.size() : together;
    }

    private TreeMap<Integer, long[]> parts() {
        TreeMap<Integer, long[]> parts = new TreeMap<>();
        for (int k = 0; k < factors.size(); k++) {
            long[] before = parts.getOrDefault(times.get(k), new long[] {1});
            parts.put(times.get(k), times(before, factors.get(k)));
        }
        return parts;
    }

    int part(int i, int what) {
        TreeMap<Integer, long[]> parts = parts();
        if (i < 0 || i >= parts.size() || what < 0 || what > 42) {
            return -1;
        }
        int k = new ArrayList<>(parts.keySet()).get(i);
        long[] row = parts.get(k);
        return what == 0 ? k : what == 1 ? row.length - 1 : (int) number(row, what - 2);
    }

    int root(int i) {
        return i < 0 || i >= roots.size() ? -1 : (int) (long) roots.get(i);
    }

    int point(long x, long v) {
        if (points.size() == 41 || points.containsKey(Math.floorMod(x, p))) {
            return -1;
        }
        points.put(Math.floorMod(x, p), Math.floorMod(v, p));
        return points.size();
    }

    /** Lagrange's way. */
    int interpolate() {
        long[] total = {};
        for (long x : points.keySet()) {
            long[] one = {points.get(x)};
            for (long other : points.keySet()) {
                if (other != x) {
                    long inverse = raise(Math.floorMod(x - other, p), p - 2);
                    one = times(one, new long[] {Math.floorMod(-other, p) * inverse % p, inverse});
                }
            }
            total = add(total, one, 1);
        }
        points.clear();
        return keep(whole(total));
    }

    // POLYNOMIALS with y

    private int keep(TreeMap<Integer, Long> f) {
        if (f == null || degreeOf(f, 0) > 40 || degreeOf(f, 1) > 6) {
            return -4;
        }
        for (int k = 0; k < 100; k++) {
            if (!places.containsKey(k)) {
                places.put(k, f);
                return k;
            }
        }
        return -5;
    }

    private TreeMap<Integer, Long> put(TreeMap<Integer, Long> f, int i, int j, long c) {
        long n = (f.getOrDefault(i * FAR + j, 0L) + Math.floorMod(c, p)) % p;
        if (n == 0) {
            f.remove(i * FAR + j);
        } else {
            f.put(i * FAR + j, n);
        }
        return f;
    }

    private static int degreeOf(TreeMap<Integer, Long> f, int which) {
        int degree = -1;
        for (int key : f.keySet()) {
            degree = Math.max(degree, which == 0 ? key / FAR : key % FAR);
        }
        return degree;
    }

    private TreeMap<Integer, Long> sum(TreeMap<Integer, Long> f, TreeMap<Integer, Long> g, long times) {
        TreeMap<Integer, Long> out = new TreeMap<>(f);
        for (Map.Entry<Integer, Long> e : g.entrySet()) {
            put(out, e.getKey() / FAR, e.getKey() % FAR, e.getValue() * times);
        }
        return out;
    }

    private TreeMap<Integer, Long> product(TreeMap<Integer, Long> f, TreeMap<Integer, Long> g) {
        TreeMap<Integer, Long> out = new TreeMap<>();
        for (Map.Entry<Integer, Long> e : f.entrySet()) {
            for (Map.Entry<Integer, Long> d : g.entrySet()) {
                int key = e.getKey() + d.getKey();
                put(out, key / FAR, key % FAR, e.getValue() * d.getValue());
            }
        }
        return out;
    }

    private TreeMap<Integer, Long> substitute(TreeMap<Integer, Long> f, TreeMap<Integer, Long> g, int which) {
        TreeMap<Integer, Long> out = new TreeMap<>();
        for (int k = degreeOf(f, which); k >= 0; k--) {
            out = product(out, g);
            if (degreeOf(out, 0) > 40 || degreeOf(out, 1) > 6) {
                return null;
            }
            for (Map.Entry<Integer, Long> e : f.entrySet()) {
                int i = e.getKey() / FAR;
                int j = e.getKey() % FAR;
                if ((which == 0 ? i : j) == k) {
                    put(out, which == 0 ? 0 : i, which == 0 ? j : 0, e.getValue());
                }
            }
        }
        return out;
    }

    private TreeMap<Integer, Long> derivative(TreeMap<Integer, Long> f, int which) {
        TreeMap<Integer, Long> out = new TreeMap<>();
        for (Map.Entry<Integer, Long> e : f.entrySet()) {
            int i = e.getKey() / FAR;
            int j = e.getKey() % FAR;
            int n = which == 0 ? i : j;
            if (n > 0) {
                put(out, which == 0 ? i - 1 : i, which == 0 ? j : j - 1, e.getValue() * n);
            }
        }
        return out;
    }

    private int resultantByY(TreeMap<Integer, Long> f, TreeMap<Integer, Long> g) {
        int m = degreeOf(f, 1);
        int n = degreeOf(g, 1);
        if (m < 1 || n < 1 || degreeOf(f, 0) > 6 || degreeOf(g, 0) > 6) {
            return -2;
        }
        long[][][] cells = new long[m + n][m + n][0];
        for (int k = 0; k < n; k++) {
            for (int j = 0; j <= m; j++) {
                cells[k][k + m - j] = row(f, j);
            }
        }
        for (int k = 0; k < m; k++) {
            for (int j = 0; j <= n; j++) {
                cells[n + k][k + n - j] = row(g, j);
            }
        }
        return keep(whole(determinant(cells)));
    }

    /** Laplace's way, once for every set of columns. */
    private long[] determinant(long[][][] cells) {
        int size = cells.length;
        long[][] minors = new long[1 << size][];
        minors[0] = new long[] {1};
        for (int set = 1; set < 1 << size; set++) {
            int row = Integer.bitCount(set) - 1;
            long[] total = {};
            for (int column = 0; column < size; column++) {
                if ((set >> column & 1) == 1) {
                    int behind = Integer.bitCount(set >> column + 1);
                    long[] one = times(cells[row][column], minors[set & ~(1 << column)]);
                    total = add(total, one, behind % 2 == 0 ? 1 : p - 1);
                }
            }
            minors[set] = total;
        }
        return minors[(1 << size) - 1];
    }

    // PLAIN ones, as rows without 0 at their end

    private static long[] row(TreeMap<Integer, Long> f, int j) {
        long[] out = new long[200];
        for (Map.Entry<Integer, Long> e : f.entrySet()) {
            if (e.getKey() % FAR == j) {
                out[e.getKey() / FAR] = e.getValue();
            }
        }
        return trim(out);
    }

    private TreeMap<Integer, Long> whole(long[] f) {
        TreeMap<Integer, Long> out = new TreeMap<>();
        for (int k = 0; k < f.length; k++) {
            put(out, k, 0, f[k]);
        }
        return out;
    }

    private static long[] trim(long[] f) {
        int length = f.length;
        while (length > 0 && f[length - 1] == 0) {
            length--;
        }
        return java.util.Arrays.copyOf(f, length);
    }

    private static long number(long[] f, int k) {
        return k < f.length ? f[k] : 0;
    }

    private long raise(long n, long e) {
        return e == 0 ? 1 : raise(n * n % p, e / 2) * (e % 2 == 1 ? n : 1) % p;
    }

    private long[] add(long[] f, long[] g, long times) {
        long[] out = new long[Math.max(f.length, g.length)];
        for (int k = 0; k < out.length; k++) {
            out[k] = (number(f, k) + times * number(g, k)) % p;
        }
        return trim(out);
    }

    private long[] times(long[] f, long[] g) {
        long[] out = new long[f.length + g.length];
        for (int i = 0; i < f.length; i++) {
            for (int j = 0; j < g.length; j++) {
                out[i + j] = (out[i + j] + f[i] * g[j]) % p;
            }
        }
        return trim(out);
    }

    /** The quotient and the rest. */
    private long[][] divide(long[] f, long[] g) {
        long[] quotient = {};
        long[] rest = f;
        while (rest.length >= g.length) {
            long[] one = new long[rest.length - g.length + 1];
            one[one.length - 1] = rest[rest.length - 1] * raise(g[g.length - 1], p - 2) % p;
            quotient = add(quotient, one, 1);
            rest = add(rest, times(one, g), p - 1);
        }
        return new long[][] {quotient, rest};
    }

    private long[] gcd(long[] f, long[] g) {
        if (g.length > 0) {
            return gcd(g, divide(f, g)[1]);
        }
        return f.length == 0 ? f : times(f, new long[] {raise(f[f.length - 1], p - 2)});
    }

    private long[] power(long[] f, long n, long[] m) {
        if (n == 0) {
            return new long[] {1};
        }
        long[] half = power(f, n / 2, m);
        long[] all = divide(times(half, half), m)[1];
        return n % 2 == 0 ? all : divide(times(all, f), m)[1];
    }

    /** The s with s f = 1 modulo g, as a solution of linear equations. */
    private long[] inverse(long[] f, long[] g) {
        int n = g.length - 1;
        long[][] rows = new long[n][n + 1];
        for (int k = 0; k < n; k++) {
            long[] shifted = new long[f.length + k];
            System.arraycopy(f, 0, shifted, k, f.length);
            long[] rest = divide(trim(shifted), g)[1];
            for (int i = 0; i < n; i++) {
                rows[i][k] = number(rest, i);
            }
        }
        rows[0][n] = 1;
        eliminate(rows);
        long[] out = new long[n];
        for (int k = 0; k < n; k++) {
            out[k] = rows[k][n] * raise(rows[k][k], p - 2) % p;
        }
        return trim(out);
    }

    private long resultant(long[] f, long[] g) {
        int m = f.length - 1;
        int n = g.length - 1;
        long[][] rows = new long[m + n][m + n];
        for (int k = 0; k < n; k++) {
            for (int j = 0; j <= m; j++) {
                rows[k][k + m - j] = f[j];
            }
        }
        for (int k = 0; k < m; k++) {
            for (int j = 0; j <= n; j++) {
                rows[n + k][k + n - j] = g[j];
            }
        }
        long product = eliminate(rows);
        for (int k = 0; k < m + n; k++) {
            product = product * rows[k][k] % p;
        }
        return product;
    }

    /** Leaves numbers on the diagonal alone (and behind it); answers the sign of the changes of rows. */
    private long eliminate(long[][] rows) {
        long sign = 1;
        for (int k = 0; k < rows.length; k++) {
            int pivot = k;
            while (pivot < rows.length && rows[pivot][k] == 0) {
                pivot++;
            }
            if (pivot == rows.length) {
                continue;
            }
            if (pivot != k) {
                long[] row = rows[k];
                rows[k] = rows[pivot];
                rows[pivot] = row;
                sign = p - sign;
            }
            long inverse = raise(rows[k][k], p - 2);
            for (int i = 0; i < rows.length; i++) {
                long times = i == k ? 0 : p - rows[i][k] * inverse % p;
                for (int j = 0; j < rows[i].length && i != k; j++) {
                    rows[i][j] = (rows[i][j] + times * rows[k][j]) % p;
                }
            }
        }
        return sign;
    }

    /** By degrees: what x^(p^d) - x has in common with the rest is the product of the factors of degree d. */
    private void findFactors(long[] f) {
        List<long[]> found = new ArrayList<>();
        long[] rest = times(f, new long[] {raise(leading, p - 2)});
        long[] x = {0, 1};
        long[] turn = x;
        for (int d = 1; rest.length > 1; d++) {
            turn = power(turn, p, f);
            long[] same = gcd(rest, add(turn, x, p - 1));
            partEqual(same, d, found);
            for (long[] one : found) {
                while (divide(rest, one)[1].length == 0) {
                    rest = divide(rest, one)[0];
                }
            }
        }
        found.sort(Model::order);
        factors = found;
        times = new ArrayList<>();
        for (long[] one : found) {
            int often = 0;
            for (long[] g = f; divide(g, one)[1].length == 0; g = divide(g, one)[0]) {
                often++;
            }
            times.add(often);
        }
    }

    private static int order(long[] f, long[] g) {
        if (f.length != g.length) {
            return f.length - g.length;
        }
        for (int k = f.length - 1; k >= 0; k--) {
            if (f[k] != g[k]) {
                return f[k] < g[k] ? -1 : 1;
            }
        }
        return 0;
    }

    private void partEqual(long[] f, int d, List<long[]> found) {
        if (f.length - 1 <= d) {
            if (f.length > 1) {
                found.add(f);
            }
            return;
        }
        long[] try1 = new long[f.length - 1];
        for (int k = 0; k < try1.length; k++) {
            try1[k] = random.nextInt((int) p);
        }
        long[] t = trim(try1);
        long[] norm = p == 2 ? new long[0] : new long[] {1};
        for (int k = 0; k < d; k++) {
            norm = p == 2 ? add(norm, t, 1) : divide(times(norm, t), f)[1];
            t = power(t, p, f);
        }
        long[] split = p == 2 ? norm : add(power(norm, (p - 1) / 2, f), new long[] {1}, p - 1);
        long[] common = gcd(f, split);
        if (common.length > 1 && common.length < f.length) {
            partEqual(common, d, found);
            partEqual(divide(f, common)[0], d, found);
        } else {
            partEqual(f, d, found);
        }
    }
}
