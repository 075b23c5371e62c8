/** Counts and prints the answers that are not as due. */
final class Checks {
    /** A call whose exception is looked at. */
    interface Call {
        void run();
    }

    private final String title;
    private String part = "";
    private int looked;
    private int wrong;

    Checks(String title) {
        this.title = title;
    }

    void start(String newPart) {
        part = newPart;
    }

    void due(String call, long got, long want) {
        looked++;
        if (got != want) {
            tell(call + " answered " + got + ", due is " + want);
        }
    }

    void due(String call, boolean got, boolean want) {
        due(call, got ? 1L : 0L, want ? 1L : 0L);
    }

    void dueNumber(String call, double got, double want) {
        looked++;
        if (Double.compare(got, want) != 0) {
            tell(call + " answered " + got + ", due is " + want);
        }
    }

    void dueText(String call, String got, String want) {
        looked++;
        if (!got.equals(want)) {
            tell(call + " answered '" + got + "', due is '" + want + "'");
        }
    }

    void dueThrow(String call, Class<? extends RuntimeException> want, Call made) {
        looked++;
        Class<?> got = thrownBy(made);
        if (got != want) {
            String what = got == null ? "nothing" : got.getSimpleName();
            tell(call + " throws " + what + ", due is " + want.getSimpleName());
        }
    }

    /** IndexOutOfBoundsException is due. */
    void dueIndex(String call, Call made) {
        dueThrow(call, IndexOutOfBoundsException.class, made);
    }

    /** IllegalArgumentException is due. */
    void dueArgument(String call, Call made) {
        dueThrow(call, IllegalArgumentException.class, made);
    }

    /** IllegalStateException is due. */
    void dueState(String call, Call made) {
        dueThrow(call, IllegalStateException.class, made);
    }

    void tell(String what) {
        wrong++;
        if (wrong <= 40) {
            System.out.println(title + ", " + part + ": " + what);
        }
    }

    /** Ends the program with exit code 1 if an answer was wrong. */
    void finish() {
        System.out.println(title + ": " + looked + " looked at, " + wrong + " not as due");
        if (wrong != 0) {
            System.exit(1);
        }
    }

    private static Class<?> thrownBy(Call made) {
        try {
            made.run();
            return null;
        } catch (RuntimeException e) {
            return e.getClass();
        }
    }
}
