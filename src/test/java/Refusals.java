/** Calls that are refused: what they throw, and that they change nothing in any situation. */
final class Refusals {
    interface Act {
        void on(Triggerwright scope);
    }

    private Refusals() {
    }

    /** A call that is refused in one situation. */
    static void refused(String call, Class<? extends RuntimeException> due, Situation at, Act act) {
        for (Aftermath after : Aftermath.values()) {
            Triggerwright scope = at.make();
            Check.refused(call + " at " + at, due, () -> act.on(scope));
            Check.same(call + " at " + at + ", refused, by its " + after, after.of(scope), at.unchanged(after));
        }
    }

    static void illegal(String call, Situation at, Act act) {
        refused(call, IllegalArgumentException.class, at, act);
    }

    static void outside(String call, Situation at, Act act) {
        refused(call, IndexOutOfBoundsException.class, at, act);
    }

    static void badState(String call, Situation at, Act act) {
        refused(call, IllegalStateException.class, at, act);
    }

    static void nothingThere(String call, Situation at, Act act) {
        refused(call, java.util.NoSuchElementException.class, at, act);
    }
}
