/** The boundaries of promises 12 to 15: samples. */
final class SampleBounds {
    private static final String OUT = "Throws IllegalArgumentException if one of the parameters is out of range";

    private SampleBounds() {
    }

    static void all() {
        push();
        pushTakes();
        pushAnswers();
        ramp();
        rampValues();
        rampAnswers();
        samples();
        fired();
    }

    private static void push() {
        new Parameter(12, "first: the value of channel 0, -128 to 127", OUT,
            (scope, x) -> scope.push(x, 0, 1)).range(-128, 127);
        new Parameter(12, "second: the value of channel 1, -128 to 127", OUT,
            (scope, x) -> scope.push(0, x, 1)).range(-128, 127);
        new Parameter(12, "count: how many, 1 to 50", OUT, (scope, x) -> scope.push(1, 1, x)).range(1, 50);
    }

    private static void pushTakes() {
        Check.sentence(12, "Takes in some equal samples, one after the other.");
        Triggerwright scope = RecordTerms.armed(1, 32);
        scope.push(-128, 127, 1);
        Check.due("1 sample", scope.samples(), 1);
        scope.push(127, -128, 50);
        Check.due("50 samples", scope.samples(), 51);
        Check.due("it fires at the first one alone", scope.fired(), 1);
        Check.due("the first one is the trigger", scope.trigger(0), 1);
        Check.due("the sample before it", scope.value(0, 0, 0), -128);
        for (int position = 1; position <= 33; position++) {
            Check.due("channel 0 at " + position, scope.value(0, 0, position), 127);
            Check.due("channel 1 at " + position, scope.value(0, 1, position), -128);
        }
    }

    private static void pushAnswers() {
        Check.sentence(12, "Returns how many records become complete.");
        Triggerwright scope = RecordTerms.armed(0, 32);
        Check.due("none is caught", scope.push(0, 0, 50), 0);
        Check.due("one lacks a sample", scope.push(1, 0, 32), 0);
        Check.due("the last sample of one", scope.push(1, 0, 1), 1);
        Check.due("none is left", scope.push(1, 0, 50), 0);
        scope.push(0, 0, 1);
        Check.due("one with all its samples", scope.push(1, 0, 50), 1);
        for (int k = 3; k <= 8; k++) {
            scope.push(0, 0, 1);
            Check.due("record " + k, scope.push(1, 0, 33), 1);
        }
        scope.push(0, 0, 1);
        Check.due("when there are 8", scope.push(1, 0, 50), 0);
    }

    private static void ramp() {
        new Parameter(13, "first: -128 to 127", OUT, (scope, x) -> scope.ramp(x, 0, 1, 1, 1)).range(-128, 127);
        new Parameter(13, "second: -128 to 127", OUT, (scope, x) -> scope.ramp(0, x, 1, 1, 1)).range(-128, 127);
        new Parameter(13, "firstStep: -50 to 50", OUT, (scope, x) -> scope.ramp(0, 0, x, 1, 2)).range(-50, 50);
        new Parameter(13, "secondStep: -50 to 50", OUT, (scope, x) -> scope.ramp(0, 0, 1, x, 2)).range(-50, 50);
        new Parameter(13, "count: how many, 1 to 50", OUT, (scope, x) -> scope.ramp(1, 1, 1, 1, x)).range(1, 50);
    }

    /** The values of channel 0 that a ramp gives, and on channel 1 the same, from the first ones on. */
    private static void rampOf(int first, int step, int... due) {
        Triggerwright scope = RecordTerms.armed(0, 32);
        scope.setEdge(0, 0, 0, true);
        // The record begins with the trigger sample 1, so that the ramp's sample 0 stands behind it.
        scope.push(0, 0, 1);
        scope.push(1, 0, 1);
        scope.ramp(first, first, step, step, 50);
        Check.due("samples", scope.samples(), 52);
        for (int k = 0; k < 32; k++) {
            int value = due[Math.min(k, due.length - 1)];
            Check.due("channel 0, sample " + k + " from " + first + " by " + step, scope.value(0, 0, k + 1), value);
            Check.due("channel 1, sample " + k + " from " + first + " by " + step, scope.value(0, 1, k + 1), value);
        }
    }

    private static void rampValues() {
        Check.sentence(13, "Takes in some samples that change evenly: sample k of them, from 0, has the values"
            + " first + k * firstStep and second + k * secondStep, each kept from -128 to 127.");
        rampOf(27, 50, 27, 77, 127, 127);
        rampOf(28, 50, 28, 78, 127, 127);
        rampOf(26, 50, 26, 76, 126, 127);
        rampOf(-28, -50, -28, -78, -128, -128);
        rampOf(-29, -50, -29, -79, -128, -128);
        rampOf(-27, -50, -27, -77, -127, -128);
        rampOf(-128, 50, -128, -78, -28, 22, 72, 122, 127);
        rampOf(127, -50, 127, 77, 27, -23, -73, -123, -128);
        rampOf(125, 1, 125, 126, 127, 127);
        rampOf(-126, -1, -126, -127, -128, -128);
        rampOf(127, 0, 127);
        rampOf(-128, 0, -128);
        rampOf(127, 50, 127);
        rampOf(-128, -50, -128);
        Triggerwright last = RecordTerms.armed(0, 0);
        last.setEdge(1, 48, 0, true);
        Check.due("49 samples", last.ramp(-128, 0, 1, 1, 49), 0);
        Check.due("50 samples", last.ramp(-128, 0, 1, 1, 50), 1);
        Check.due("the 50th of 50", last.trigger(0), 98);
        Check.due("channel 0 there", last.value(0, 0, 0), -79);
        Check.due("channel 1 there", last.value(0, 1, 0), 49);
    }

    private static void rampAnswers() {
        Check.sentence(13, "Returns how many records become complete.");
        Triggerwright scope = RecordTerms.armed(0, 2);
        scope.push(0, 0, 1);
        Check.due("one lacks a sample", scope.ramp(1, 0, 1, 0, 2), 0);
        Check.due("the last sample of one", scope.ramp(3, 0, 1, 0, 1), 1);
        Check.due("none", scope.ramp(3, 0, -1, 0, 50), 0);
        Scopes.feed(scope, 1);
        Check.due("one that was caught before, and one with all its samples", scope.ramp(-3, 0, 1, 0, 7), 2);
        Check.due("records", scope.records(), 3);
        Scopes.feed(scope, 0, 1);
        Check.due("one that was caught before, and one that lacks a sample", scope.ramp(-3, 0, 1, 0, 6), 1);
        Check.due("this sample, and one with all its samples", scope.ramp(-3, 0, 1, 0, 7), 2);
        Check.due("records", scope.records(), 6);
        Scopes.feed(scope, 0, 1, 1, 1, 0, 1);
        Check.due("the eighth alone, when there are 7", scope.ramp(-3, 0, 1, 0, 50), 1);
        Check.due("none, when there are 8", scope.ramp(-3, 0, 1, 0, 50), 0);
    }

    private static void samples() {
        Check.sentence(14, "Returns how many samples came in.");
        Triggerwright scope = new Triggerwright();
        Check.due("none yet", scope.samples(), 0);
        scope.push(0, 0, 1);
        Check.due("one", scope.samples(), 1);
        scope.ramp(0, 0, 0, 0, 50);
        Check.due("50 more", scope.samples(), 51);
        Check.illegal("refused", () -> scope.push(0, 0, 51));
        Check.illegal("refused", () -> scope.ramp(0, 0, 0, 51, 50));
        Check.due("none by refused calls", scope.samples(), 51);
        Scopes.pushMany(scope, 0, 20000);
        Check.due("many", scope.samples(), 20051);
        scope.arm();
        Check.due("as many when armed", scope.samples(), 20051);
    }

    private static void fired() {
        Check.sentence(15, "Returns at how many samples the conditions have fired so far, whether that was a trigger or not.");
        Triggerwright scope = new Triggerwright();
        Check.due("none yet", scope.fired(), 0);
        Scopes.feed(scope, 0, 1);
        Check.due("not armed", scope.fired(), 1);
        scope.arm();
        Check.due("armed", scope.fired(), 1);
        Scopes.feed(scope, 0, 1);
        Check.due("too few samples before", scope.fired(), 2);
        Check.due("that was no trigger", scope.isCatching(), false);
        Scopes.feed(scope, 0, 1, 0, 1);
        Check.due("one trigger, one while it is being caught", scope.fired(), 4);
        scope.setEdge(1, 0, 0, true);
        Check.due("another condition", scope.fired(), 4);
        scope.push(1, 0, 1);
        scope.push(1, 1, 1);
        Check.due("by both", scope.fired(), 5);
        scope.setHoldoff(1000);
        scope.push(1, 0, 20);
        scope.push(1, 1, 1);
        Check.due("held off", scope.fired(), 6);
        Check.due("that was no trigger", scope.isCatching(), false);
        Check.illegal("refused", () -> scope.push(1, 1, 51));
        Check.due("by refused calls", scope.fired(), 6);
    }
}
