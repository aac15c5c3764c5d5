/** Counts answers that are not as due. */
final class Due {
    private String test;
    private int calls;
    private int wrong;

    Due(String test) {
        this.test = test;
    }

    /** Another name for what follows. */
    void name(String name) {
        test = name;
    }

    void is(String call, long got, long want) {
        calls++;
        if (got != want) {
            wrong++;
            if (wrong <= 50) {
                System.out.println(test + ": " + call + " answered " + got + ", due is " + want);
            }
        }
    }

    void is(String call, boolean got, boolean want) {
        is(call, got ? 1 : 0, want ? 1 : 0);
    }

    /** A PLACE that holds these terms, each told as {c, i, j}; looked at up to a step above their DEGREES. */
    void holds(String call, PolyWork w, int a, long[]... terms) {
        is(call + " is a PLACE", a >= 0, true);
        long[][] due = new long[41][7];
        int degreeX = -1;
        int degreeY = -1;
        for (long[] term : terms) {
            due[(int) term[1]][(int) term[2]] = term[0];
            degreeX = term[0] == 0 ? degreeX : Math.max(degreeX, (int) term[1]);
            degreeY = term[0] == 0 ? degreeY : Math.max(degreeY, (int) term[2]);
        }
        is(call + ": DEGREE in x", w.degree(a, 0), degreeX);
        is(call + ": DEGREE in y", w.degree(a, 1), degreeY);
        for (int i = 0; i <= Math.min(40, degreeX + 1); i++) {
            for (int j = 0; j <= Math.min(6, degreeY + 1); j++) {
                is(call + ": at x^" + i + " y^" + j, w.at(a, i, j), due[i][j]);
            }
        }
    }

    /** A PLACE that holds these numbers at x^0, x^1 .. and nothing else. */
    void row(String call, PolyWork w, int a, long... numbers) {
        long[][] terms = new long[numbers.length][];
        for (int i = 0; i < numbers.length; i++) {
            terms[i] = new long[] {numbers[i], i, 0};
        }
        holds(call, w, a, terms);
    }

    /** Ends the program, with 1 if an answer was wrong. */
    void end() {
        System.out.println(test + ": " + calls + " answers, " + wrong + " wrong");
        System.exit(wrong == 0 && calls > 0 ? 0 : 1);
    }
}
