/** Counts and prints the calls whose answer is not the one that is due. */
final class Check {
    private static int wrong = 0;
    private static int asked = 0;
    private static String where = "";
    private static int askedBefore = 0;

    private Check() {
    }

    /** From here on the checks are for this sentence of the document: of a promise, or of the terms, 0. */
    static void sentence(int promise, String words) {
        endSentence();
        where = Sentences.quote(promise, words);
        askedBefore = asked;
    }

    /** From here on the checks are for no sentence. */
    static void endSentence() {
        if (!where.isEmpty() && asked == askedBefore) {
            wrong++;
            System.out.println(where + "has no check");
        }
        where = "";
    }

    static void due(String call, double got, double want) {
        same(call, got, want);
    }

    static void due(String call, boolean got, boolean want) {
        same(call, got, want);
    }

    static void same(String call, Object got, Object want) {
        asked++;
        if (!got.equals(want)) {
            wrong++;
            System.out.println(where + call + " answered " + got + ", due is " + want);
        }
    }

    /** What a call throws, by its name; a kind of an exception is another one than the exception. */
    private static String thrownBy(Runnable body) {
        try {
            body.run();
        } catch (RuntimeException e) {
            return e.getClass().getName();
        }
        return "nothing";
    }

    static void refused(String call, Class<? extends RuntimeException> due, Runnable body) {
        same(call + ", by what it throws,", thrownBy(body), due.getName());
    }

    static void taken(String call, Runnable body) {
        same(call + ", by what it throws,", thrownBy(body), "nothing");
    }

    static void illegal(String call, Runnable body) {
        refused(call, IllegalArgumentException.class, body);
    }

    static void outside(String call, Runnable body) {
        refused(call, IndexOutOfBoundsException.class, body);
    }

    static void badState(String call, Runnable body) {
        refused(call, IllegalStateException.class, body);
    }

    static void nothingThere(String call, Runnable body) {
        refused(call, java.util.NoSuchElementException.class, body);
    }

    /** Ends a test's main method: with exit code 1 if an answer was wrong. */
    static void finish(String test) {
        endSentence();
        System.out.println(test + ": " + asked + " checks, " + wrong + " wrong");
        if (wrong != 0 || asked == 0) {
            System.exit(1);
        }
    }
}
