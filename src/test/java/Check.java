/** Counts and prints the calls whose answer is not the one that is due. */
final class Check {
    private static int wrong = 0;
    private static int asked = 0;

    private Check() {
    }

    static void due(String call, double got, double want) {
        asked++;
        if (got != want) {
            wrong++;
            System.out.println(call + " answered " + got + ", due is " + want);
        }
    }

    static void due(String call, boolean got, boolean want) {
        due(call, got ? 1 : 0, want ? 1 : 0);
    }

    /** Checks that a call throws just the exception that is due, no kind of it. */
    static void refused(String call, Class<? extends RuntimeException> due, Runnable body) {
        asked++;
        String got = "nothing";
        try {
            body.run();
        } catch (RuntimeException e) {
            got = e.getClass().getName();
        }
        if (!got.equals(due.getName())) {
            wrong++;
            System.out.println(call + " threw " + got + ", due is " + due.getName());
        }
    }

    static void illegal(String call, Runnable body) {
        refused(call, IllegalArgumentException.class, body);
    }

    static void outside(String call, Runnable body) {
        refused(call, IndexOutOfBoundsException.class, body);
    }

    static void badState(String call, Runnable body) {
        refused(call, IllegalStateException.class, body);
    }

    static void nothingThere(String call, Runnable body) {
        refused(call, java.util.NoSuchElementException.class, body);
    }

    /** Ends a test's main method: with exit code 1 if an answer was wrong. */
    static void finish(String test) {
        System.out.println(test + ": " + asked + " checks, " + wrong + " wrong");
        if (wrong != 0 || asked == 0) {
            System.exit(1);
        }
    }
}
