import java.util.function.IntUnaryOperator;

/** Counts answers that are as due, and prints those that are not. */
final class Check {
    private static int right, wrong;

    private Check() {
    }

    static void due(String call, long got, long want) {
        if (got == want) {
            right++;
        } else {
            wrong++;
            System.out.println(call + " answered " + got + ", due is " + want);
        }
    }

    static void due(String call, String got, String want) {
        due(call + " [" + got + " | " + want + "]", got.equals(want) ? 1 : 0, 1);
    }

    /** One call with each of these values has the same answer due. */
    static void each(String call, IntUnaryOperator of, long want, int... values) {
        for (int v : values) due(call + " with " + v, of.applyAsInt(v), want);
    }

    /** Every test's main ends with this. */
    static void end(String test) {
        System.out.println(test + ": " + right + " answers as due, " + wrong + " not");
        if (wrong > 0 || right == 0) System.exit(1);
    }
}
