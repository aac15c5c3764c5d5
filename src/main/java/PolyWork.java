/** Polynomials in x and y over a prime field. */
public final class PolyWork {
    public static final int NONE = -1;

    private static final int NO_PLACE = -1;
    private static final int NOT_AS_TOLD = -2;
    private static final int NO_ANSWER = -3;
    private static final int TOO_HIGH = -4;
    private static final int NO_ROOM = -5;
    private static final int DONE = 0;

    private static final int PLACES = 100;
    private static final int TOP_X = 40;
    private static final int TOP_Y = 6;
    private static final int WIDTH = 41;
    private static final int AREA = 287;
    private static final int GREATEST_PRIME = 65521;

    private static final int LAST_ACT = 13;
    private static final int RESULTANT_BY_Y = 12;
    private static final int FIRST_PLAIN_ACT = 8;
    /** The RESULTANT by y is asked only of those that have at most this DEGREE in x. */
    private static final int RESULTANT_TOP_X = 6;

    /** Room for a product of two PLAIN ones, DEGREE 80, and for a RESULTANT by y, DEGREE 72. */
    private static final int ROOM = 84;
    /** Room for a product of two minors of the RESULTANT's rows, DEGREE 132 at most. */
    private static final int WIDE_ROOM = 160;
    /** 1 + 2 + .. + 8 is 36: nine different k do not go into DEGREE 40. */
    private static final int MOST_PARTS = 8;

    private final Field field;
    private final Poly[] places;
    private final boolean[] taken;
    private final Whole whole;
    private final Plain plain;
    private final Points points;
    /** What an act gives, before it has a PLACE. */
    private final Poly out;
    private final Row first;
    private final Row second;
    private final Row answer;
    /** Made at the first factor(): few objects ever need its rows. */
    private Factors factors;
    /** Made at the first RESULTANT by y, for the same reason. */
    private Sylvester sylvester;

    public PolyWork() {
        field = new Field();
        places = new Poly[PLACES];
        taken = new boolean[PLACES];
        whole = new Whole(field);
        plain = new Plain(field);
        points = new Points(field);
        out = new Poly();
        first = new Row(ROOM);
        second = new Row(ROOM);
        answer = new Row(ROOM);
    }

    public boolean prime(int p) {
        if (!Field.isPrime(p)) {
            return false;
        }
        field.become(p);
        for (int k = 0; k < PLACES; k++) {
            taken[k] = false;
        }
        points.count = 0;
        if (factors != null) {
            factors.forget();
        }
        return true;
    }

    public int constant(long c) {
        out.clear();
        out.numbers[0] = field.mod(c);
        out.measure();
        return keep(out);
    }

    public int variable(int which) {
        if (which != 0 && which != 1) {
            return NOT_AS_TOLD;
        }
        out.clear();
        out.numbers[which == 0 ? 1 : WIDTH] = 1;
        out.measure();
        return keep(out);
    }

    public int apply(int act, int a, int b) {
        if (act < 0 || act > LAST_ACT) {
            return NOT_AS_TOLD;
        }
        boolean alone = act == 3 || act == 6 || act == 7;
        Poly left = find(a);
        Poly right = alone ? left : find(b);
        if (left == null || right == null) {
            return NO_PLACE;
        }
        int refusal;
        if (act < FIRST_PLAIN_ACT) {
            refusal = wholeAct(act, left, right) ? DONE : TOO_HIGH;
        } else if (act == RESULTANT_BY_Y) {
            refusal = resultantByY(left, right);
        } else {
            refusal = plainAct(act, left, right);
        }
        return refusal < 0 ? refusal : keep(out);
    }

    public int plus(int a, long c, int i, int j) {
        Poly poly = find(a);
        if (poly == null) {
            return NO_PLACE;
        }
        if (!isPower(i, j)) {
            return TOO_HIGH;
        }
        int index = j * WIDTH + i;
        out.copy(poly);
        out.numbers[index] = field.mod(out.numbers[index] + field.mod(c));
        out.measure();
        return keep(out);
    }

    public int power(int a, long n, int m) {
        Poly base = find(a);
        Poly modulus = find(m);
        if (base == null || modulus == null) {
            return NO_PLACE;
        }
        if (!base.isPlain() || !modulus.isPlain() || n < 0) {
            return NOT_AS_TOLD;
        }
        if (modulus.degreeX < 1) {
            return NO_ANSWER;
        }
        base.toRow(first);
        modulus.toRow(second);
        plain.powerModulo(first, n, second, answer);
        out.fromRow(answer);
        return keep(out);
    }

    public int at(int a, int i, int j) {
        Poly poly = find(a);
        if (poly == null || !isPower(i, j)) {
            return NONE;
        }
        return (int) poly.numbers[j * WIDTH + i];
    }

    public int degree(int a, int which) {
        Poly poly = find(a);
        if (poly == null || (which != 0 && which != 1)) {
            return NOT_AS_TOLD;
        }
        return which == 0 ? poly.degreeX : poly.degreeY;
    }

    public int value(int a, long x, long y) {
        Poly poly = find(a);
        if (poly == null) {
            return NONE;
        }
        return (int) whole.valueAt(poly, field.mod(x), field.mod(y));
    }

    public boolean same(int a, int b) {
        Poly left = find(a);
        Poly right = find(b);
        return left != null && right != null && left.isLike(right);
    }

    public boolean drop(int a) {
        if (find(a) == null) {
            return false;
        }
        taken[a] = false;
        return true;
    }

    public int factor(int a) {
        Poly poly = find(a);
        if (poly == null) {
            return NO_PLACE;
        }
        if (!poly.isPlain()) {
            return NOT_AS_TOLD;
        }
        if (poly.degreeX < 1) {
            return NO_ANSWER;
        }
        if (factors == null) {
            factors = new Factors(field, plain);
        }
        poly.toRow(first);
        factors.search(first);
        return factors.count;
    }

    public int factorOf(int i, int what) {
        Row row = toldFactor(i);
        if (row == null || (what != 0 && what != 1)) {
            return NONE;
        }
        return what == 0 ? factors.times[i] : row.degree;
    }

    public int factorAt(int i, int k) {
        Row row = toldFactor(i);
        if (row == null || k < 0 || k > TOP_X) {
            return NONE;
        }
        return (int) row.number(k);
    }

    public int take(int i) {
        Row row = toldFactor(i);
        if (row == null) {
            return NO_PLACE;
        }
        out.fromRow(row);
        return keep(out);
    }

    public int told(int what) {
        if (factors == null || factors.count == 0) {
            return NONE;
        }
        switch (what) {
            case 0:
                return (int) factors.leading;
            case 1:
                return factors.partCount;
            case 2:
                return factors.rootCount;
            case 3:
                return factors.together;
            default:
                return NONE;
        }
    }

    public int part(int i, int what) {
        if (factors == null || i < 0 || i >= factors.partCount || what < 0 || what > TOP_X + 2) {
            return NONE;
        }
        if (what == 0) {
            return factors.partTimes[i];
        }
        Row row = Row.in(factors.parts, i);
        return what == 1 ? row.degree : (int) row.number(what - 2);
    }

    public int root(int i) {
        if (factors == null || i < 0 || i >= factors.rootCount) {
            return NONE;
        }
        return (int) factors.roots[i];
    }

    public int point(long x, long v) {
        return points.put(field.mod(x), field.mod(v)) ? points.count : NONE;
    }

    public int interpolate() {
        points.meet(answer, first);
        points.count = 0;
        out.fromRow(answer);
        return keep(out);
    }

    /** The POLYNOMIAL at a PLACE, null if there is none. */
    private Poly find(int a) {
        return a >= 0 && a < PLACES && taken[a] ? places[a] : null;
    }

    /** Gives a copy the least free PLACE; a PLACE's numbers are made once and used again. */
    private int keep(Poly poly) {
        for (int k = 0; k < PLACES; k++) {
            if (!taken[k]) {
                if (places[k] == null) {
                    places[k] = new Poly();
                }
                places[k].copy(poly);
                taken[k] = true;
                return k;
            }
        }
        return NO_ROOM;
    }

    private static boolean isPower(int i, int j) {
        return i >= 0 && i <= TOP_X && j >= 0 && j <= TOP_Y;
    }

    /** FACTOR i of the latest factor(), null if there is none. */
    private Row toldFactor(int i) {
        return factors != null && i >= 0 && i < factors.count ? Row.in(factors.rows, i) : null;
    }

    /** The acts of any POLYNOMIALS, into out; false: DEGREES are too high. */
    private boolean wholeAct(int act, Poly a, Poly b) {
        switch (act) {
            case 0:
                whole.combine(a, b, 1, out);
                return true;
            case 1:
                whole.combine(a, b, -1, out);
                return true;
            case 2:
                return whole.multiply(a, b, out);
            case 3:
                out.clear();
                whole.combine(out, a, -1, out);
                return true;
            case 4:
                return whole.substitute(a, b, true, out);
            case 5:
                return whole.substitute(a, b, false, out);
            default:
                whole.derive(a, act == 6, out);
                return true;
        }
    }

    /** The acts of PLAIN ones, into out; answers the refusal. */
    private int plainAct(int act, Poly a, Poly b) {
        if (!a.isPlain() || !b.isPlain()) {
            return NOT_AS_TOLD;
        }
        a.toRow(first);
        b.toRow(second);
        int refusal;
        if (act == 13) {
            refusal = resultantByX();
        } else if (act == 11) {
            refusal = second.degree > 0 && plain.invert(first, second, answer) ? DONE : NO_ANSWER;
        } else if (act == 10) {
            plain.commonDivisor(first, second, answer);
            refusal = DONE;
        } else {
            refusal = division(act == 8);
        }
        if (refusal == DONE) {
            out.fromRow(answer);
        }
        return refusal;
    }

    private int division(boolean quotientAsked) {
        if (second.degree < 0) {
            return NO_ANSWER;
        }
        plain.reduce(first, second, answer);
        if (!quotientAsked) {
            answer.copy(first);
        }
        return DONE;
    }

    private int resultantByX() {
        if (first.degree < 0 || second.degree < 0) {
            return NO_ANSWER;
        }
        answer.become(plain.resultant(first, second));
        return DONE;
    }

    private int resultantByY(Poly a, Poly b) {
        if (a.degreeY < 1 || b.degreeY < 1 || a.degreeX > RESULTANT_TOP_X || b.degreeX > RESULTANT_TOP_X) {
            return NOT_AS_TOLD;
        }
        if (sylvester == null) {
            sylvester = new Sylvester(field, plain);
        }
        sylvester.fill(a, b);
        sylvester.determinant(answer);
        if (answer.degree > TOP_X) {
            return TOO_HIGH;
        }
        out.fromRow(answer);
        return DONE;
    }

    /** The numbers modulo p. */
    private static final class Field {
        /** Never below 2, so it may divide everywhere. */
        int p = 2;

        void become(int prime) {
            p = Math.max(2, prime);
        }

        static boolean isPrime(int n) {
            if (n < 2 || n > GREATEST_PRIME) {
                return false;
            }
            for (int d = 2; d * d <= n; d++) {
                if (n % d == 0) {
                    return false;
                }
            }
            return true;
        }

        long mod(long n) {
            long rest = n % p;
            return rest < 0 ? rest + p : rest;
        }

        /** base^n, n 0 or more. */
        long raise(long base, int n) {
            long product = 1;
            long square = base;
            for (int left = n; left > 0; left >>= 1) {
                if ((left & 1) == 1) {
                    product = product * square % p;
                }
                square = square * square % p;
            }
            return product;
        }

        /** By Fermat. */
        long inverse(long n) {
            return n == 1 ? 1 : raise(n, p - 2);
        }
    }

    /** A POLYNOMIAL: the number at x^i y^j stands at j * WIDTH + i, so a PLAIN one is the first row. */
    private static final class Poly {
        final long[] numbers = new long[AREA];
        int degreeX = NONE;
        int degreeY = NONE;

        void clear() {
            for (int k = 0; k < AREA; k++) {
                numbers[k] = 0;
            }
            degreeX = NONE;
            degreeY = NONE;
        }

        void copy(Poly other) {
            System.arraycopy(other.numbers, 0, numbers, 0, AREA);
            degreeX = other.degreeX;
            degreeY = other.degreeY;
        }

        /** Finds the DEGREES anew, after the numbers were set one by one. */
        void measure() {
            degreeX = NONE;
            degreeY = NONE;
            for (int j = 0; j <= TOP_Y; j++) {
                for (int i = 0; i <= TOP_X; i++) {
                    if (numbers[j * WIDTH + i] != 0) {
                        degreeX = Math.max(degreeX, i);
                        degreeY = j;
                    }
                }
            }
        }

        boolean isPlain() {
            return degreeY < 1;
        }

        boolean isLike(Poly other) {
            for (int k = 0; k < AREA; k++) {
                if (numbers[k] != other.numbers[k]) {
                    return false;
                }
            }
            return true;
        }

        /** The numbers at y^0. */
        void toRow(Row row) {
            sliceTo(0, row);
        }

        /** The numbers at y^j, as a row in x. */
        void sliceTo(int j, Row row) {
            for (int i = 0; i < WIDTH; i++) {
                row.numbers[i] = numbers[j * WIDTH + i];
            }
            row.settle(TOP_X);
        }

        void fromRow(Row row) {
            clear();
            int top = Math.min(row.degree, TOP_X);
            for (int i = 0; i <= top; i++) {
                numbers[i] = row.numbers[i];
            }
            degreeX = top;
            degreeY = top < 0 ? NONE : 0;
        }
    }

    /** The acts that POLYNOMIALS with y take part in. */
    private static final class Whole {
        final Field field;
        final Poly product = new Poly();

        Whole(Field field) {
            this.field = field;
        }

        /** a + sign b; out may be a or b. */
        void combine(Poly a, Poly b, int sign, Poly out) {
            for (int k = 0; k < AREA; k++) {
                out.numbers[k] = field.mod(a.numbers[k] + sign * b.numbers[k]);
            }
            out.measure();
        }

        /** False: the product has DEGREES that are too high. In a field DEGREES add up, so they tell it ahead. */
        boolean multiply(Poly a, Poly b, Poly out) {
            out.clear();
            if (a.degreeX < 0 || b.degreeX < 0) {
                return true;
            }
            if (a.degreeX + b.degreeX > TOP_X || a.degreeY + b.degreeY > TOP_Y) {
                return false;
            }
            for (int j = 0; j <= a.degreeY; j++) {
                for (int i = 0; i <= a.degreeX; i++) {
                    addShifted(b, a.numbers[j * WIDTH + i], j * WIDTH + i, out);
                }
            }
            // At most 21 * 4 products below 2^32 have come together, so one reduction at the end is enough.
            for (int k = 0; k < AREA; k++) {
                out.numbers[k] = field.mod(out.numbers[k]);
            }
            out.measure();
            return true;
        }

        private static void addShifted(Poly b, long number, int shift, Poly out) {
            if (number == 0) {
                return;
            }
            for (int j = 0; j <= b.degreeY; j++) {
                for (int i = 0; i <= b.degreeX; i++) {
                    out.numbers[shift + j * WIDTH + i] += number * b.numbers[j * WIDTH + i];
                }
            }
        }

        /** a with b in place of x (or y), from the greatest power down; false: DEGREES on the way are too high. */
        boolean substitute(Poly a, Poly b, boolean forX, Poly out) {
            int top = forX ? a.degreeX : a.degreeY;
            out.clear();
            for (int k = top; k >= 0; k--) {
                if (!multiply(out, b, product)) {
                    return false;
                }
                out.copy(product);
                addSlice(a, k, forX, out);
            }
            return true;
        }

        /** To out what stands in a at x^k (or y^k). */
        private void addSlice(Poly a, int k, boolean forX, Poly out) {
            int from = forX ? k : k * WIDTH;
            int step = forX ? WIDTH : 1;
            int length = forX ? TOP_Y + 1 : WIDTH;
            for (int n = 0; n < length; n++) {
                out.numbers[n * step] = field.mod(out.numbers[n * step] + a.numbers[from + n * step]);
            }
            out.measure();
        }

        void derive(Poly a, boolean byX, Poly out) {
            out.clear();
            int step = byX ? 1 : WIDTH;
            for (int j = byX ? 0 : 1; j <= TOP_Y; j++) {
                for (int i = byX ? 1 : 0; i <= TOP_X; i++) {
                    int index = j * WIDTH + i;
                    out.numbers[index - step] = field.mod(a.numbers[index] * (byX ? i : j));
                }
            }
            out.measure();
        }

        long valueAt(Poly a, long x, long y) {
            long total = 0;
            for (int j = a.degreeY; j >= 0; j--) {
                long row = 0;
                for (int i = a.degreeX; i >= 0; i--) {
                    row = field.mod(row * x + a.numbers[j * WIDTH + i]);
                }
                total = field.mod(total * y + row);
            }
            return total;
        }
    }

    /** A PLAIN one at work; what stands above its degree has no meaning. */
    private static final class Row {
        final long[] numbers;
        int degree = NONE;

        Row(int room) {
            numbers = new long[room < 1 ? 1 : room];
        }

        /** The row at an index of a list whose rows are made when they are first wanted. */
        static Row in(Row[] list, int index) {
            int k = Math.max(0, Math.min(index, list.length - 1));
            if (list[k] == null) {
                list[k] = new Row(ROOM);
            }
            return list[k];
        }

        void copy(Row other) {
            degree = Math.min(other.degree, numbers.length - 1);
            if (degree >= 0) {
                System.arraycopy(other.numbers, 0, numbers, 0, degree + 1);
            }
        }

        void become(long number) {
            numbers[0] = number;
            degree = number == 0 ? NONE : 0;
        }

        /** Finds the degree, no number above top being told. */
        void settle(int top) {
            int k = top < numbers.length ? top : numbers.length - 1;
            while (k >= 0 && numbers[k] == 0) {
                k--;
            }
            degree = k < 0 ? NONE : k;
        }

        long number(int k) {
            return k >= 0 && k <= degree ? numbers[k] : 0;
        }

        /** The number at the greatest power, 0 of the row 0. */
        long leading() {
            return degree < 0 ? 0 : numbers[degree];
        }
    }

    /** The acts of PLAIN ones. */
    private static final class Plain {
        final Field field;
        final Row wide = new Row(ROOM);
        final Row spare = new Row(ROOM);
        final Row upper = new Row(ROOM);
        final Row lower = new Row(ROOM);
        final Row upperTimes = new Row(ROOM);
        final Row lowerTimes = new Row(ROOM);
        final Row base = new Row(ROOM);
        final Row modulus = new Row(ROOM);

        Plain(Field field) {
            this.field = field;
        }

        /** a b with numbers not yet modulo p: at most 73 products below 2^32 come together in one. */
        void pile(Row a, Row b, Row out) {
            int top = a.degree < 0 || b.degree < 0 ? NONE : a.degree + b.degree;
            int last = b.degree;
            long[] factors = b.numbers;
            long[] sums = out.numbers;
            for (int k = 0; k <= top; k++) {
                sums[k] = 0;
            }
            for (int i = 0; i <= a.degree; i++) {
                long number = a.numbers[i];
                if (number != 0) {
                    for (int j = 0; j <= last; j++) {
                        sums[i + j] += number * factors[j];
                    }
                }
            }
            out.degree = top;
        }

        void multiply(Row a, Row b, Row out) {
            pile(a, b, wide);
            for (int k = 0; k <= wide.degree; k++) {
                wide.numbers[k] %= field.p;
            }
            out.copy(wide);
        }

        /** Leaves in r its rest by b, which is not 0; r's numbers may come as pile() leaves them. */
        void reduce(Row r, Row b, Row quotient) {
            int n = b.degree;
            int top = r.degree;
            quotient.degree = NONE;
            if (n < 0) {
                return;
            }
            long p = field.p;
            long[] divisor = b.numbers;
            long[] left = r.numbers;
            // Not field.inverse(): one call less on the longest chain of calls.
            long inverse = divisor[n] == 1 ? 1 : field.raise(divisor[n], field.p - 2);
            for (int i = top; i >= n; i--) {
                long times = left[i] % p * inverse % p;
                int shift = i - n;
                quotient.numbers[shift] = times;
                if (times != 0) {
                    long lack = p - times;
                    for (int j = 0; j < n; j++) {
                        left[shift + j] += lack * divisor[j];
                    }
                }
            }
            quotient.settle(top - n);
            for (int k = 0; k < n && k <= top; k++) {
                left[k] %= p;
            }
            r.settle(Math.min(n - 1, top));
        }

        void makeMonic(Row row) {
            if (row.degree < 0) {
                return;
            }
            long inverse = field.inverse(row.leading());
            for (int k = 0; k <= row.degree; k++) {
                row.numbers[k] = row.numbers[k] * inverse % field.p;
            }
        }

        /** The MONIC greatest common divisor; out may be a or b. */
        void commonDivisor(Row a, Row b, Row out) {
            Row u = upper;
            Row v = lower;
            u.copy(a);
            v.copy(b);
            for (int turn = 0; turn <= ROOM && v.degree >= 0; turn++) {
                reduce(u, v, spare);
                Row rest = u;
                u = v;
                v = rest;
            }
            makeMonic(u);
            out.copy(u);
        }

        /** The inverse of a modulo b, b of DEGREE 1 or more; false: there is none. */
        boolean invert(Row a, Row b, Row out) {
            Row u = upper;
            Row v = lower;
            Row uTimes = upperTimes;
            Row vTimes = lowerTimes;
            u.copy(b);
            v.copy(a);
            reduce(v, b, spare);
            uTimes.become(0);
            vTimes.become(1);
            // u and v are uTimes and vTimes a, modulo b, in every turn.
            for (int turn = 0; turn <= ROOM && v.degree >= 0; turn++) {
                reduce(u, v, spare);
                lessen(uTimes, spare, vTimes);
                Row row = u;
                u = v;
                v = row;
                row = uTimes;
                uTimes = vTimes;
                vTimes = row;
            }
            if (u.degree != 0) {
                return false;
            }
            multiplyBy(uTimes, field.inverse(u.numbers[0]), out);
            return true;
        }

        /** row - a b into row. */
        private void lessen(Row row, Row a, Row b) {
            pile(a, b, wide);
            int top = Math.max(row.degree, wide.degree);
            for (int k = 0; k <= top; k++) {
                row.numbers[k] = field.mod(row.number(k) - wide.number(k));
            }
            row.settle(top);
        }

        /** out may be row; number is not 0. */
        void multiplyBy(Row row, long number, Row out) {
            out.copy(row);
            for (int k = 0; k <= out.degree; k++) {
                out.numbers[k] = field.mod(out.numbers[k] * number);
            }
        }

        /** a b's rest by a MONIC m of DEGREE 1 or more; a, b of DEGREE below m's; out may be any but m. */
        void multiplyModulo(Row a, Row b, Row m, Row out) {
            pile(a, b, wide);
            reduce(wide, m, spare);
            out.copy(wide);
        }

        /** a^n's rest by m of DEGREE 1 or more; out may be a, not m. */
        void powerModulo(Row a, long n, Row m, Row out) {
            modulus.copy(m);
            makeMonic(modulus);
            base.copy(a);
            reduce(base, modulus, spare);
            out.become(1);
            for (int bit = 62; bit >= 0; bit--) {
                multiplyModulo(out, out, modulus, out);
                if ((n >> bit & 1) == 1) {
                    multiplyModulo(out, base, modulus, out);
                }
            }
        }

        void derive(Row a, Row out) {
            for (int k = 1; k <= a.degree; k++) {
                out.numbers[k - 1] = a.numbers[k] * k % field.p;
            }
            out.settle(a.degree - 1);
        }

        /** The RESULTANT of two that are not 0, by Euclid's turns. */
        long resultant(Row a, Row b) {
            Row u = upper;
            Row v = lower;
            u.copy(a);
            v.copy(b);
            long product = 1;
            for (int turn = 0; turn <= ROOM && v.degree > 0; turn++) {
                int degree = u.degree;
                if ((degree & v.degree & 1) == 1) {
                    product = field.mod(-product);
                }
                reduce(u, v, spare);
                if (u.degree < 0) {
                    return 0;
                }
                product = field.mod(product * field.raise(v.leading(), degree - u.degree));
                Row rest = u;
                u = v;
                v = rest;
            }
            return field.mod(product * field.raise(v.leading(), u.degree));
        }
    }

    /** The RESULTANT by y: Bareiss' elimination, whose divisions leave no rest, so nothing grows past the minors. */
    private static final class Sylvester {
        final Field field;
        final Plain plain;
        final Row[] cells = new Row[4 * TOP_Y * TOP_Y];
        final Row product = new Row(WIDE_ROOM);
        final Row quotient = new Row(WIDE_ROOM);
        final Row one = new Row(1);
        int size;

        Sylvester(Field field, Plain plain) {
            this.field = field;
            this.plain = plain;
            one.become(1);
        }

        private Row cell(int row, int column) {
            return Row.in(cells, row * size + column);
        }

        void fill(Poly a, Poly b) {
            size = a.degreeY + b.degreeY;
            for (int row = 0; row < size; row++) {
                boolean fromA = row < b.degreeY;
                Poly poly = fromA ? a : b;
                int shift = fromA ? row : row - b.degreeY;
                for (int column = 0; column < size; column++) {
                    int j = poly.degreeY - (column - shift);
                    if (j < 0 || j > poly.degreeY) {
                        cell(row, column).become(0);
                    } else {
                        poly.sliceTo(j, cell(row, column));
                    }
                }
            }
        }

        void determinant(Row out) {
            Row before = one;
            int sign = 1;
            for (int k = 0; k + 1 < size; k++) {
                int row = pivotRow(k);
                if (row < 0) {
                    out.become(0);
                    return;
                }
                if (row != k) {
                    swapRows(row, k);
                    sign = -sign;
                }
                eliminate(k, before);
                before = cell(k, k);
            }
            plain.multiplyBy(cell(size - 1, size - 1), sign, out);
        }

        /** The first row from k on that is not 0 in column k. */
        private int pivotRow(int k) {
            for (int row = k; row < size; row++) {
                if (cell(row, k).degree >= 0) {
                    return row;
                }
            }
            return NONE;
        }

        private void swapRows(int upper, int lower) {
            for (int column = 0; column < size; column++) {
                int k = upper * size + column;
                int l = lower * size + column;
                Row row = cells[k];
                cells[k] = cells[l];
                cells[l] = row;
            }
        }

        private void eliminate(int k, Row before) {
            for (int row = k + 1; row < size; row++) {
                for (int column = k + 1; column < size; column++) {
                    Row cell = cell(row, column);
                    plain.pile(cell, cell(k, k), product);
                    pileLess(cell(row, k), cell(k, column));
                    plain.reduce(product, before, quotient);
                    cell.copy(quotient);
                }
            }
        }

        /** product - a b, with numbers not yet modulo p and none below 0. */
        private void pileLess(Row a, Row b) {
            if (a.degree < 0 || b.degree < 0) {
                return;
            }
            for (int k = product.degree + 1; k <= a.degree + b.degree; k++) {
                product.numbers[k] = 0;
            }
            product.degree = Math.max(product.degree, a.degree + b.degree);
            for (int i = 0; i <= a.degree; i++) {
                long number = field.p - a.numbers[i];
                for (int j = 0; j <= b.degree; j++) {
                    product.numbers[i + j] += number * b.numbers[j];
                }
            }
        }
    }

    /** Berlekamp's way to the FACTORS of one in which each is once. */
    private static final class Splitter {
        final Field field;
        final Plain plain;
        final long[] grid = new long[TOP_X * TOP_X];
        /** For each column of the grid the row that has its first number there, NONE: a free column. */
        final int[] pivots = new int[TOP_X];
        final Row frobenius = new Row(ROOM);
        final Row vector = new Row(ROOM);
        final Row trial = new Row(ROOM);
        int size;

        Splitter(Field field, Plain plain) {
            this.field = field;
            this.plain = plain;
        }

        /** Puts the FACTORS of w, MONIC and square-free, to the list from start on; answers the index behind them. */
        int split(Row w, Row[] list, int start) {
            Row.in(list, start).copy(w);
            int end = start + 1;
            if (w.degree < 2) {
                return end;
            }
            fillGrid(w);
            int due = Math.min(start + size - clearColumns(), list.length);
            for (int column = 1; column < size && end < due; column++) {
                boolean open = pivots[column] == NONE;
                if (open) {
                    readVector(column);
                }
                // While the vector is not constant modulo one in the list, some shift parts that one's FACTORS.
                for (int shift = 0; shift < field.p && open && end < due; shift++) {
                    open = false;
                    int last = end;
                    for (int k = start; k < last && end < due; k++) {
                        Row row = Row.in(list, k);
                        if (isOpen(row)) {
                            open = true;
                            end += parts(row, shift, Row.in(list, end)) ? 1 : 0;
                        }
                    }
                }
            }
            return end;
        }

        /** Column i gets the numbers of x^(i p) - x^i, modulo w. */
        private void fillGrid(Row w) {
            size = Math.min(w.degree, TOP_X);
            trial.become(1);
            vector.numbers[0] = 0;
            vector.numbers[1] = 1;
            vector.degree = 1;
            plain.powerModulo(vector, field.p, w, frobenius);
            for (int column = 0; column < size; column++) {
                for (int row = 0; row < size; row++) {
                    long less = row == column ? 1 : 0;
                    grid[row * size + column] = field.mod(trial.number(row) - less);
                }
                plain.multiplyModulo(trial, frobenius, w, trial);
            }
        }

        /** Gauss' elimination; answers the rank. */
        private int clearColumns() {
            int rank = 0;
            for (int column = 0; column < size; column++) {
                int row = rank;
                while (row < size && grid[row * size + column] == 0) {
                    row++;
                }
                pivots[column] = NONE;
                if (row < size) {
                    raiseRow(row, rank, column);
                    for (int other = 0; other < size; other++) {
                        if (other != rank) {
                            clearRow(other, rank, column);
                        }
                    }
                    pivots[column] = rank;
                    rank++;
                }
            }
            return rank;
        }

        /** Changes a row with the one at rank, and makes its number in the column 1. */
        private void raiseRow(int row, int rank, int column) {
            long inverse = field.inverse(grid[row * size + column]);
            for (int k = 0; k < size; k++) {
                long number = grid[row * size + k] * inverse % field.p;
                grid[row * size + k] = grid[rank * size + k];
                grid[rank * size + k] = number;
            }
        }

        private void clearRow(int row, int rank, int column) {
            long number = grid[row * size + column];
            if (number == 0) {
                return;
            }
            long p = field.p;
            for (int k = column; k < size; k++) {
                grid[row * size + k] = (grid[row * size + k] + (p - number) * grid[rank * size + k]) % p;
            }
        }

        /** The vector that a free column gives: its p-th power is itself, modulo w. */
        private void readVector(int free) {
            for (int column = 0; column < size; column++) {
                int row = pivots[column];
                vector.numbers[column] = row < 0 ? 0 : field.mod(-grid[row * size + free]);
            }
            vector.numbers[free] = 1;
            vector.settle(size - 1);
        }

        /** Whether the vector parts this one's FACTORS at all; leaves its rest in trial. */
        private boolean isOpen(Row row) {
            if (row.degree < 2) {
                return false;
            }
            trial.copy(vector);
            plain.reduce(trial, row, plain.spare);
            return trial.degree > 0;
        }

        /** Parts row by where trial + shift is a square that is not 0 (p = 2: is 0); false: all are alike there. */
        private boolean parts(Row row, int shift, Row other) {
            trial.numbers[0] = (trial.numbers[0] + shift) % field.p;
            if (field.p > 2) {
                plain.powerModulo(trial, (field.p - 1) / 2, row, trial);
                trial.numbers[0] = field.mod(trial.number(0) - 1);
                trial.settle(Math.max(0, trial.degree));
            }
            plain.commonDivisor(trial, row, trial);
            if (trial.degree < 1 || trial.degree >= row.degree) {
                return false;
            }
            plain.reduce(row, trial, other);
            row.copy(trial);
            return true;
        }
    }

    /** What the latest factor() has found; count is 0 when there is none. */
    private static final class Factors {
        final Field field;
        final Plain plain;
        final Splitter splitter;
        final Row[] rows = new Row[TOP_X];
        final int[] times = new int[TOP_X];
        final Row[] parts = new Row[MOST_PARTS];
        final int[] partTimes = new int[MOST_PARTS];
        final long[] roots = new long[TOP_X];
        final Row rest = new Row(ROOM);
        final Row work = new Row(ROOM);
        final Row single = new Row(ROOM);
        int count;
        int partCount;
        int rootCount;
        int together;
        long leading;

        Factors(Field field, Plain plain) {
            this.field = field;
            this.plain = plain;
            splitter = new Splitter(field, plain);
        }

        void forget() {
            count = 0;
            partCount = 0;
            rootCount = 0;
            together = 0;
            leading = 0;
        }

        /** Of a row of DEGREE 1 .. 40. */
        void search(Row row) {
            forget();
            leading = row.leading();
            rest.copy(row);
            plain.makeMonic(rest);
            int often = 1;
            // Each turn lowers the DEGREE of the rest.
            for (int turn = 0; turn <= TOP_X && rest.degree > 0; turn++) {
                plain.derive(rest, work);
                if (work.degree < 0) {
                    takeRoot();
                    often *= field.p;
                } else {
                    plain.commonDivisor(rest, work, work);
                    single.copy(rest);
                    plain.reduce(single, work, plain.base);
                    single.copy(plain.base);
                    int start = count;
                    count = splitter.split(single, rows, start);
                    for (int k = start; k < count; k++) {
                        times[k] = often * divideOut(Row.in(rows, k));
                        together += times[k];
                    }
                }
            }
            sort();
            gatherParts();
            gatherRoots();
        }

        /** The rest is a p-th power, for its derivative is 0; its numbers are their own p-th roots. */
        private void takeRoot() {
            int top = rest.degree / field.p;
            for (int k = 0; k <= top; k++) {
                rest.numbers[k] = rest.numbers[k * field.p];
            }
            rest.settle(top);
        }

        /** How often a FACTOR divides the rest, which loses it. */
        private int divideOut(Row factor) {
            int often = 0;
            for (int turn = 0; turn <= TOP_X && rest.degree >= factor.degree; turn++) {
                work.copy(rest);
                plain.reduce(work, factor, single);
                if (work.degree >= 0) {
                    return often;
                }
                rest.copy(single);
                often++;
            }
            return often;
        }

        private void sort() {
            for (int k = 1; k < count; k++) {
                for (int l = k; l > 0 && isBefore(Row.in(rows, l), Row.in(rows, l - 1)); l--) {
                    Row row = rows[l];
                    rows[l] = rows[l - 1];
                    rows[l - 1] = row;
                    int often = times[l];
                    times[l] = times[l - 1];
                    times[l - 1] = often;
                }
            }
        }

        private static boolean isBefore(Row a, Row b) {
            if (a.degree != b.degree) {
                return a.degree < b.degree;
            }
            for (int k = a.degree; k >= 0; k--) {
                if (a.numbers[k] != b.numbers[k]) {
                    return a.numbers[k] < b.numbers[k];
                }
            }
            return false;
        }

        private void gatherParts() {
            for (int often = 1; often <= TOP_X && partCount < MOST_PARTS; often++) {
                work.become(1);
                for (int k = 0; k < count; k++) {
                    if (times[k] == often) {
                        plain.multiply(work, Row.in(rows, k), work);
                    }
                }
                if (work.degree > 0) {
                    Row.in(parts, partCount).copy(work);
                    partTimes[partCount] = often;
                    partCount++;
                }
            }
        }

        /** FACTORS x + c come with lesser c first: the root of x, then the others' from the last one back. */
        private void gatherRoots() {
            int lines = 0;
            while (lines < count && Row.in(rows, lines).degree == 1) {
                lines++;
            }
            int first = 0;
            if (lines > 0 && Row.in(rows, 0).number(0) == 0) {
                roots[rootCount++] = 0;
                first = 1;
            }
            for (int k = lines - 1; k >= first; k--) {
                roots[rootCount++] = field.p - Row.in(rows, k).number(0);
            }
        }
    }

    /** The points for INTERPOLATION. */
    private static final class Points {
        final Field field;
        final long[] xs = new long[WIDTH];
        final long[] values = new long[WIDTH];
        int count;

        Points(Field field) {
            this.field = field;
        }

        /** False: there are 41, or one has this x. */
        boolean put(long x, long v) {
            if (count >= WIDTH) {
                return false;
            }
            for (int k = 0; k < count; k++) {
                if (xs[k] == x) {
                    return false;
                }
            }
            xs[count] = x;
            values[count] = v;
            count++;
            return true;
        }

        /** Newton's way: a point adds as much of the product of the x - x_k before it as meets its value. */
        void meet(Row out, Row product) {
            out.become(0);
            product.become(1);
            for (int k = 0; k < count; k++) {
                long gap = field.mod(values[k] - valueOf(out, xs[k]));
                long times = field.mod(gap * field.inverse(valueOf(product, xs[k])));
                for (int i = 0; i <= product.degree; i++) {
                    out.numbers[i] = field.mod(out.number(i) + times * product.numbers[i]);
                }
                out.settle(product.degree);
                multiplyByLine(product, xs[k]);
            }
        }

        private long valueOf(Row row, long x) {
            long total = 0;
            for (int k = row.degree; k >= 0; k--) {
                total = field.mod(total * x + row.numbers[k]);
            }
            return total;
        }

        /** product times x - root. */
        private void multiplyByLine(Row product, long root) {
            int top = product.degree + 1;
            for (int k = top; k >= 0; k--) {
                long below = k > 0 ? product.numbers[k - 1] : 0;
                product.numbers[k] = field.mod(below - root * product.number(k));
            }
            product.degree = top;
        }
    }
}
