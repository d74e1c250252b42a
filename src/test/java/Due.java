import java.util.function.Supplier;

/** Counts answers that are not the ones due, and tells the first of them. */
final class Due {
    private static final int TOLD_AT_MOST = 100;

    private int asked = 0;
    private int wrong = 0;

    void is(String call, long got, long want) {
        so(got == want, () -> call + " answered " + got + ", due is " + want);
    }

    void is(String call, boolean got, boolean want) {
        is(call, got ? 1L : 0L, want ? 1L : 0L);
    }

    /** What to tell is only put together if it is told. */
    void so(boolean holds, Supplier<String> otherwise) {
        asked++;
        if (!holds) {
            wrong++;
            if (wrong <= TOLD_AT_MOST) {
                System.out.println(otherwise.get());
            }
        }
    }

    int wrongSoFar() {
        return wrong;
    }

    void end(String test) {
        System.out.println(test + ": " + asked + " answers, " + wrong + " not as due");
        if (wrong != 0) {
            System.exit(1);
        }
    }
}
