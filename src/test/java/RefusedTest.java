import java.util.ArrayList;
import java.util.List;
import java.util.function.Consumer;
import java.util.function.ToLongFunction;

/**
 * "What is refused changes nothing", of every call and every refusal that it has. Two objects get the same calls, one
 * of them the refused call too; then both have to answer all questions alike. No object is used for more than 512
 * calls, so the questions are parted among objects that all came the same way.
 */
public final class RefusedTest {
    private static final Due DUE = new Due("RefusedTest");
    private static final int LEAST = Make.LEAST;
    private static final int MOST = Make.MOST;
    private static final int[] OFF = {LEAST, -1, 100, MOST};
    private static final int QUESTIONS = 250;

    /** A call that is refused, and the answer that tells it. */
    private record Refused(String name, ToLongFunction<PolyWork> call, long due) {
    }

    private final String name;
    private final Consumer<PolyWork> way;
    private final List<ToLongFunction<PolyWork>> questions = new ArrayList<>();
    private final List<Refused> refused = new ArrayList<>();

    private RefusedTest(String name, Consumer<PolyWork> way) {
        this.name = name;
        this.way = way;
        askPlaces();
        askTold();
    }

    public static void main(String[] args) {
        newObject();
        ordinary();
        high();
        full();
        fortyOnePoints();
        DUE.end();
    }

    private void refuse(String call, long due, ToLongFunction<PolyWork> made) {
        refused.add(new Refused(call, made, due));
    }

    /** Which PLACES are taken, by what DEGREES, and all numbers of those that are. */
    private void askPlaces() {
        PolyWork seen = new PolyWork();
        way.accept(seen);
        for (int a = 0; a < 100; a++) {
            int place = a;
            questions.add(w -> w.degree(place, 0));
            questions.add(w -> w.degree(place, 1));
            boolean taken = seen.degree(place, 0) != -2;
            for (int k = 0; k < 287 && taken; k++) {
                int i = k % 41;
                int j = k / 41;
                questions.add(w -> w.at(place, i, j));
            }
        }
    }

    private void askTold() {
        for (int k = 0; k < 5; k++) {
            int index = k;
            questions.add(w -> w.told(index));
            questions.add(w -> w.root(index));
            for (int m = 0; m < 8; m++) {
                int what = m;
                questions.add(w -> w.factorOf(index, what));
                questions.add(w -> w.factorAt(index, what));
                questions.add(w -> w.part(index, what));
            }
        }
    }

    /** The questions from one on, of an object that came the way, with the refused call or without. */
    private List<Long> answers(int from, Refused one) {
        PolyWork w = new PolyWork();
        way.accept(w);
        if (one != null) {
            DUE.is(name + ": " + one.name, one.call.applyAsLong(w), one.due);
        }
        List<Long> answers = new ArrayList<>();
        for (int k = from; k < Math.min(from + QUESTIONS, questions.size()); k++) {
            answers.add(questions.get(k).applyAsLong(w));
        }
        return answers;
    }

    /** What can only be seen by calls that change something: the field, the points, the least free PLACE. */
    private List<Long> changes(Refused one) {
        PolyWork w = new PolyWork();
        way.accept(w);
        if (one != null) {
            one.call.applyAsLong(w);
        }
        List<Long> answers = new ArrayList<>();
        int a = w.constant(-1);
        answers.add((long) a);
        answers.add((long) w.at(a, 0, 0));
        answers.add((long) w.take(0));
        answers.add((long) w.point(0, 4));
        answers.add((long) w.point(6, 2));
        w.drop(50);
        int b = w.interpolate();
        answers.add((long) b);
        for (int x = 0; x < 60; x++) {
            answers.add((long) w.value(b, x, 0));
        }
        return answers;
    }

    private void check() {
        for (int from = 0; from < questions.size(); from += QUESTIONS) {
            List<Long> before = answers(from, null);
            for (Refused one : refused) {
                List<Long> after = answers(from, one);
                DUE.is(name + ": " + one.name + " changes nothing from question " + from, after.equals(before), true);
            }
        }
        List<Long> before = changes(null);
        for (Refused one : refused) {
            DUE.is(name + ": " + one.name + " changes nothing hidden", changes(one).equals(before), true);
        }
    }

    /** prime() of no PRIME 2 .. 65521. */
    private void refusePrimes() {
        for (int p : new int[] {LEAST, -2, -1, 0, 1, 4, 65520, 65522, 65537, MOST}) {
            refuse("prime " + p, 0, w -> w.prime(p) ? 1 : 0);
        }
    }

    /** Every call that names a PLACE where none is. */
    private void refusePlaces(int a, int taken) {
        for (int act = 0; act <= 13; act++) {
            int one = act;
            refuse("act " + act + " of " + a, -1, w -> w.apply(one, a, taken));
            if (act != 3 && act != 6 && act != 7) {
                refuse("act " + act + " with " + a, -1, w -> w.apply(one, taken, a));
            }
        }
        refuse("plus " + a, -1, w -> w.plus(a, 1, 0, 0));
        refuse("power of " + a, -1, w -> w.power(a, 2, taken));
        refuse("power by " + a, -1, w -> w.power(taken, 2, a));
        refuse("at " + a, -1, w -> w.at(a, 0, 0));
        refuse("degree " + a, -2, w -> w.degree(a, 0));
        refuse("value " + a, -1, w -> w.value(a, 1, 1));
        refuse("same " + a, 0, w -> w.same(a, taken) ? 1 : 0);
        refuse("same with " + a, 0, w -> w.same(taken, a) ? 1 : 0);
        refuse("drop " + a, 0, w -> w.drop(a) ? 1 : 0);
        refuse("factor " + a, -1, w -> w.factor(a));
    }

    /** Numbers that are not as told, whatever the state is. */
    private void refuseNumbers(int taken) {
        for (int off : new int[] {LEAST, -1, 14, MOST}) {
            refuse("act " + off, -2, w -> w.apply(off, taken, taken));
        }
        for (int off : new int[] {LEAST, -1, 2, MOST}) {
            refuse("variable " + off, -2, w -> w.variable(off));
            refuse("degree in " + off, -2, w -> w.degree(taken, off));
            refuse("factorOf what " + off, -1, w -> w.factorOf(0, off));
        }
        for (int off : new int[] {LEAST, -1, 4, MOST}) {
            refuse("told " + off, -1, w -> w.told(off));
        }
        for (int off : new int[] {LEAST, -1, 41, MOST}) {
            refuse("plus x^" + off, -4, w -> w.plus(taken, 1, off, 0));
            refuse("at x^" + off, -1, w -> w.at(taken, off, 0));
            refuse("factorAt x^" + off, -1, w -> w.factorAt(0, off));
        }
        for (int off : new int[] {LEAST, -1, 7, MOST}) {
            refuse("plus y^" + off, -4, w -> w.plus(taken, 1, 0, off));
            refuse("at y^" + off, -1, w -> w.at(taken, 0, off));
        }
        for (int off : new int[] {LEAST, -1, 43, MOST}) {
            refuse("part what " + off, -1, w -> w.part(0, off));
        }
        for (int off : new int[] {LEAST, -1, 5, MOST}) {
            refuse("factorOf " + off, -1, w -> w.factorOf(off, 0));
            refuse("factorAt " + off, -1, w -> w.factorAt(off, 0));
            refuse("take " + off, -1, w -> w.take(off));
            refuse("part " + off, -1, w -> w.part(off, 0));
            refuse("root " + off, -1, w -> w.root(off));
        }
    }

    private static void newObject() {
        RefusedTest test = new RefusedTest("new", w -> { });
        test.refusePrimes();
        for (int a : new int[] {LEAST, -1, 0, 99, 100, MOST}) {
            test.refusePlaces(a, 0);
        }
        test.refuse("told", -1, w -> w.told(0));
        test.refuse("take", -1, w -> w.take(0));
        test.refuse("variable", -2, w -> w.variable(2));
        test.refuse("act", -2, w -> w.apply(14, 0, 0));
        test.check();
    }

    /**
     * The field of 7; PLACES 0: x, 1: y, 2: 0, 3: 5, 4: 2 x^2 + 2 x, 6: x^7 y, 7: y + 6 x^6, 8: x^5 y^6, 9: x^40 y^6;
     * 5 is free. FACTORS of 4 and three points are there.
     */
    private static void seven(PolyWork w) {
        w.prime(7);
        w.variable(0);
        w.variable(1);
        w.constant(0);
        w.constant(5);
        w.plus(2, 2, 1, 0);
        w.plus(4, 2, 2, 0);
        w.plus(2, 1, 7, 1);
        w.plus(1, 6, 6, 0);
        w.plus(2, 1, 5, 6);
        w.plus(2, 1, 40, 6);
        w.drop(4);
        w.plus(5, 0, 0, 0);
        w.drop(5);
        w.factor(4);
        w.point(1, 2);
        w.point(2, 4);
        w.point(3, 1);
    }

    private static void refuseActs(RefusedTest test) {
        for (int act : new int[] {8, 9, 10, 11, 13}) {
            test.refuse("act " + act + " of y", -2, w -> w.apply(act, 1, 0));
            test.refuse("act " + act + " with y", -2, w -> w.apply(act, 0, 1));
        }
        test.refuse("12 of x", -2, w -> w.apply(12, 0, 1));
        test.refuse("12 with 0", -2, w -> w.apply(12, 1, 2));
        test.refuse("12 of x^7 y", -2, w -> w.apply(12, 6, 1));
        test.refuse("12 with x^7 y", -2, w -> w.apply(12, 1, 6));
        test.refuse("quotient by 0", -3, w -> w.apply(8, 0, 2));
        test.refuse("rest by 0", -3, w -> w.apply(9, 4, 2));
        test.refuse("inverse modulo 0", -3, w -> w.apply(11, 0, 2));
        test.refuse("inverse modulo 5", -3, w -> w.apply(11, 0, 3));
        test.refuse("inverse of 0", -3, w -> w.apply(11, 2, 4));
        test.refuse("inverse of x modulo 2 x^2 + 2 x", -3, w -> w.apply(11, 0, 4));
        test.refuse("13 of 0", -3, w -> w.apply(13, 2, 0));
        test.refuse("13 with 0", -3, w -> w.apply(13, 0, 2));
        test.refuse("product too high in x", -4, w -> w.apply(2, 9, 0));
        test.refuse("product too high in y", -4, w -> w.apply(2, 9, 1));
        test.refuse("4 too high", -4, w -> w.apply(4, 9, 4));
        test.refuse("4 too high after many steps", -4, w -> w.apply(4, 8, 9));
        test.refuse("5 too high", -4, w -> w.apply(5, 8, 7));
        test.refuse("5 too high after many steps", -4, w -> w.apply(5, 9, 0));
        test.refuse("12 too high", -4, w -> w.apply(12, 7, 8));
    }

    private static void refusePowers(RefusedTest test) {
        test.refuse("power of y", -2, w -> w.power(1, 1, 4));
        test.refuse("power by y", -2, w -> w.power(4, 1, 1));
        test.refuse("power -1", -2, w -> w.power(0, -1, 4));
        test.refuse("power of the least long", -2, w -> w.power(0, Long.MIN_VALUE, 4));
        test.refuse("power by 0", -3, w -> w.power(0, 1, 2));
        test.refuse("power by 5", -3, w -> w.power(0, 0, 3));
        test.refuse("factor y", -2, w -> w.factor(1));
        test.refuse("factor x^40 y^6", -2, w -> w.factor(9));
        test.refuse("factor 0", -3, w -> w.factor(2));
        test.refuse("factor 5", -3, w -> w.factor(3));
        test.refuse("point 1", -1, w -> w.point(1, 5));
        test.refuse("point 3 + 7", -1, w -> w.point(10, 5));
        test.refuse("point 2 - 7", -1, w -> w.point(-5, 5));
    }

    private static void ordinary() {
        RefusedTest test = new RefusedTest("ordinary", RefusedTest::seven);
        PolyWork w = new PolyWork();
        seven(w);
        DUE.row("PLACE 4", w, 4, 0, 2, 2);
        DUE.is("PLACE 5 is free", w.degree(5, 0), -2);
        DUE.is("PLACE 10 is free", w.degree(10, 0), -2);
        test.refusePrimes();
        for (int a : OFF) {
            test.refusePlaces(a, 4);
        }
        test.refusePlaces(5, 4);
        test.refusePlaces(10, 4);
        test.refuseNumbers(4);
        refuseActs(test);
        refusePowers(test);
        test.refuse("take 2", -1, v -> v.take(2));
        test.refuse("root 2", -1, v -> v.root(2));
        test.refuse("part 1", -1, v -> v.part(1, 0));
        test.check();
    }

    /**
     * The greatest field and DEGREES, where what a refused call has begun reaches far. PLACES 0: x, 1: y, 2: 0, 4: one
     * with numbers at all of x^0 .. x^40, 3: that and x^40 y^6.
     */
    private static void greatest(PolyWork w) {
        w.prime(65521);
        w.variable(0);
        w.variable(1);
        w.constant(0);
        long[] numbers = new long[41];
        for (int i = 0; i <= 40; i++) {
            numbers[i] = 65520 - i * i;
        }
        w.factor(Make.plain(w, numbers));
        w.plus(4, 1, 40, 6);
        for (int k = 0; k < 5; k++) {
            w.point(10 + k, k * k * k);
        }
    }

    private static void high() {
        RefusedTest test = new RefusedTest("high", RefusedTest::greatest);
        PolyWork w = new PolyWork();
        greatest(w);
        DUE.is("PLACE 4", w.degree(4, 0) == 40 && w.degree(4, 1) == 0, true);
        DUE.is("PLACE 3", w.degree(3, 0) == 40 && w.degree(3, 1) == 6, true);
        DUE.is("some are told", w.told(3) > 0, true);
        test.refusePrimes();
        test.refuse("square", -4, v -> v.apply(2, 4, 4));
        test.refuse("4", -4, v -> v.apply(4, 4, 4));
        test.refuse("4 with x^40 y^6", -4, v -> v.apply(4, 4, 3));
        test.refuse("5", -4, v -> v.apply(5, 3, 4));
        test.refuse("no inverse", -3, v -> v.apply(11, 4, 4));
        test.refuse("by 0", -3, v -> v.apply(9, 4, 2));
        test.refuse("13 of 0", -3, v -> v.apply(13, 2, 4));
        test.refuse("12", -2, v -> v.apply(12, 3, 3));
        test.refuse("factor y", -2, v -> v.factor(1));
        test.refuse("factor with y", -2, v -> v.factor(3));
        test.refuse("factor 0", -3, v -> v.factor(2));
        test.refuse("power", -2, v -> v.power(4, -1, 4));
        test.refuse("power", -3, v -> v.power(4, Long.MAX_VALUE, 2));
        test.refuse("point", -1, v -> v.point(65521 + 12, 5));
        test.check();
    }

    /** No PLACE is free: each call that would give one, by -5; what was refused ahead of it, as ever. */
    private static void full() {
        RefusedTest test = new RefusedTest("full", w -> {
            seven(w);
            for (int k = 0; k < 91; k++) {
                w.constant(k);
            }
        });
        PolyWork seen = new PolyWork();
        test.way.accept(seen);
        DUE.is("full", seen.constant(1), -5);
        test.refuse("constant", -5, w -> w.constant(3));
        test.refuse("x", -5, w -> w.variable(0));
        test.refuse("y", -5, w -> w.variable(1));
        test.refuse("plus", -5, w -> w.plus(4, 1, 40, 6));
        test.refuse("power", -5, w -> w.power(0, Long.MAX_VALUE, 4));
        test.refuse("take", -5, w -> w.take(1));
        for (int act = 0; act <= 10; act++) {
            int one = act;
            test.refuse("act " + act, -5, w -> w.apply(one, 0, 4));
        }
        test.refuse("act 11", -5, w -> w.apply(11, 3, 4));
        test.refuse("act 12", -5, w -> w.apply(12, 1, 7));
        test.refuse("act 13", -5, w -> w.apply(13, 0, 4));
        refuseActs(test);
        refusePowers(test);
        test.refusePrimes();
        for (int a : OFF) {
            test.refusePlaces(a, 4);
        }
        test.check();
    }

    /** 41 points are there. */
    private static void fortyOnePoints() {
        RefusedTest test = new RefusedTest("41 points", w -> {
            w.prime(65519);
            w.variable(0);
            for (int k = 0; k < 41; k++) {
                w.point(k, k * k * k);
            }
        });
        test.refuse("a new x", -1, w -> w.point(41, 5));
        test.refuse("the first x", -1, w -> w.point(0, 5));
        test.refuse("the last x", -1, w -> w.point(40, 5));
        test.refuse("a far x", -1, w -> w.point(Long.MIN_VALUE, Long.MAX_VALUE));
        test.refusePrimes();
        test.refuse("variable", -2, w -> w.variable(2));
        test.refuse("factor", -1, w -> w.factor(1));
        test.check();
    }
}
