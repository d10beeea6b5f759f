/** Scopes in states that many tests begin with. */
final class Scopes {
    private Scopes() {
    }

    /** Takes in values of channel 0, one by one, with 0 on channel 1; answers how many records became complete. */
    static int feed(Triggerwright scope, int... values) {
        int completed = 0;
        for (int value : values) {
            completed += scope.push(value, 0, 1);
        }
        return completed;
    }

    /** Takes in values of channel 1, one by one, with 0 on channel 0. */
    static int feedSecond(Triggerwright scope, int... values) {
        int completed = 0;
        for (int value : values) {
            completed += scope.push(0, value, 1);
        }
        return completed;
    }

    /** Takes in pairs: first, second, first, second and so on. */
    static int feedPairs(Triggerwright scope, int... values) {
        int completed = 0;
        for (int k = 0; k + 1 < values.length; k += 2) {
            completed += scope.push(values[k], values[k + 1], 1);
        }
        return completed;
    }

    /** Takes in any number of equal samples, in calls of 50 at the most, with 0 on channel 1. */
    static int pushMany(Triggerwright scope, int value, int count) {
        int completed = 0;
        for (int left = count; left > 0; left -= 50) {
            completed += scope.push(value, 0, Math.min(50, left));
        }
        return completed;
    }

    /** How often the condition fires while these values come in on channel 0. */
    static int firings(Triggerwright scope, int... values) {
        int before = scope.fired();
        feed(scope, values);
        return scope.fired() - before;
    }

    static int firingsSecond(Triggerwright scope, int... values) {
        int before = scope.fired();
        feedSecond(scope, values);
        return scope.fired() - before;
    }

    static int firingsPairs(Triggerwright scope, int... values) {
        int before = scope.fired();
        feedPairs(scope, values);
        return scope.fired() - before;
    }

    /**
     * A disarmed scope whose record 0 has just these values on channel 0, at most 33, the first
     * one greater than -128, and their negatives, kept within the bounds, on channel 1.
     */
    static Triggerwright holding(int... values) {
        Triggerwright scope = new Triggerwright();
        scope.setLengths(0, values.length - 1);
        scope.setEdge(0, values[0] - 1, 0, true);
        scope.push(-128, 0, 1);
        scope.arm();
        for (int value : values) {
            scope.push(value, Math.min(127, -value), 1);
        }
        scope.disarm();
        if (scope.records() != 1 || scope.length(0) != values.length) {
            throw new AssertionError("the record was not caught");
        }
        return scope;
    }
}
