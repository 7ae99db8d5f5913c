import java.util.function.LongSupplier;

/** Counts the answers that are not as due; end() closes a test with exit code 1 if there is one. */
final class Due {
    static final Class<? extends RuntimeException> INDEX = IndexOutOfBoundsException.class;
    static final Class<? extends RuntimeException> TURN = IllegalStateException.class;
    static final Class<? extends RuntimeException> RANGE = IllegalArgumentException.class;
    static final Class<? extends RuntimeException> MEANING = UnsupportedOperationException.class;

    private static int wrong = 0;

    private Due() {
    }

    static void is(String call, long want, LongSupplier asked) {
        String got;
        try {
            got = Long.toString(asked.getAsLong());
        } catch (RuntimeException e) {
            got = "throws " + e.getClass().getName();
        }
        same(call, got, Long.toString(want));
    }

    /** Both numbers of a fraction; the first text stands for the call without its part. */
    static void fraction(String call, long upper, long lower, LongSupplier part0,
            LongSupplier part1) {
        is(call + " part 0", upper, part0);
        is(call + " part 1", lower, part1);
    }

    /** The very class is due: what the machine throws is of a class below it and counts as wrong. */
    static void refuses(String call, Class<? extends RuntimeException> kind, Runnable asked) {
        String got = "no exception";
        try {
            asked.run();
        } catch (RuntimeException e) {
            got = "throws " + e.getClass().getName();
        }
        same(call, got, "throws " + kind.getName());
    }

    static void same(String call, String got, String want) {
        if (!got.equals(want)) {
            wrong++;
            System.out.println(call + " answered " + got + ", due is " + want);
        }
    }

    static void end() {
        System.out.println(wrong == 0 ? "all answers are as due"
                : wrong + " answers are not as due");
        if (wrong != 0) {
            System.exit(1);
        }
    }
}
