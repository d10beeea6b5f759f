/** The boundaries of the trace, of the sources and of refused calls, as 'Terms' tells them. */
final class TraceTerms {
    private TraceTerms() {
    }

    static void all() {
        stackAtFirst();
        sixteenParts();
        oneOperand();
        twoOperands();
        justOnePart();
        keptBounds();
        keptThatWrap();
        sources();
        changesNothing();
        firstDocumented();
    }

    private static void terms(String words) {
        Check.sentence(Sentences.TERMS, words);
    }

    /** Checks the trace of record 0 from its first sample on. */
    static void dueTrace(String call, Triggerwright scope, int... due) {
        for (int k = 0; k < due.length; k++) {
            Check.due(call + " at " + k, scope.trace(0, k), due[k]);
        }
    }

    /** Puts a number from -1000000 to 1000000 by 5 parts: constants reach no further than 1000. */
    static void putNumber(Triggerwright scope, int number) {
        scope.putConstant(number / 1000);
        scope.putConstant(1000);
        scope.combine(2);
        scope.putConstant(number % 1000);
        scope.combine(0);
    }

    private static void stackAtFirst() {
        terms("An expression is built on a stack, which is empty at first,");
        Check.due("the expression has no parts", new Triggerwright().clearTrace(), 0);
        Check.badState("no part for an operation", () -> new Triggerwright().apply(0));
        Check.badState("no parts for one with two operands", () -> new Triggerwright().combine(0));
        Check.badState("no trace", () -> Scopes.holding(1).trace(0, 0));
        Check.due("the first part", new Triggerwright().putChannel(0), 1);
    }

    private static void sixteenParts() {
        terms("and has at most 16 parts.");
        Triggerwright high = Scopes.holding(5);
        for (int k = 1; k <= 16; k++) {
            Check.due("part " + k, high.putConstant(k), k);
        }
        Check.badState("part 17", () -> high.putConstant(17));
        Check.due("16 parts", high.clearTrace(), 16);
        Triggerwright flat = Scopes.holding(5);
        flat.putChannel(0);
        for (int k = 2; k <= 16; k++) {
            Check.due("part " + k + " on a stack of one", flat.apply(0), 1);
        }
        Check.badState("part 17 on a stack of one", () -> flat.apply(0));
        dueTrace("15 negatives", flat, -5);
        Check.due("16 parts, though the stack has one", flat.clearTrace(), 16);
    }

    private static void oneOperand() {
        terms("A channel or a constant is a part that is put on the stack; an operation with one operand takes the top part"
            + " off and puts a part made of it on;");
        Triggerwright scope = Scopes.holding(5, -7);
        Check.due("a constant", scope.putConstant(20), 1);
        Check.due("a channel", scope.putChannel(0), 2);
        Check.due("the negative of the top part", scope.apply(0), 2);
        scope.combine(0);
        dueTrace("20 and the negative", scope, 15, 27);
    }

    private static void twoOperands() {
        terms("one with two operands takes two off, the top one as the second operand, and puts a part made of both on.");
        Triggerwright scope = Scopes.holding(5, -7);
        scope.putConstant(100);
        scope.putConstant(20);
        scope.putChannel(0);
        Check.due("two off and one on", scope.combine(1), 2);
        Check.due("down to one", scope.combine(1), 1);
        dueTrace("100 less (20 less channel 0)", scope, 85, 73);
    }

    private static void justOnePart() {
        terms("If the stack has just one part, the trace of a record is what this part tells for each of its samples,"
            + " in order.");
        Triggerwright scope = Scopes.holding(5, -7, 9);
        Check.badState("none", () -> scope.trace(0, 0));
        scope.putChannel(0);
        dueTrace("one", scope, 5, -7, 9);
        scope.putChannel(1);
        Check.badState("two", () -> scope.trace(0, 0));
        scope.combine(3);
        dueTrace("one of two", scope, -5, -7, -9);
        scope.clearTrace();
        Check.badState("none again", () -> scope.trace(0, 0));
    }

    /** The trace of a number and what is done with it. */
    private static void kept(int number, Refusals.Act done, int... due) {
        Triggerwright scope = Scopes.holding(1, 1);
        putNumber(scope, number);
        done.on(scope);
        dueTrace("made of " + number, scope, due);
    }

    private static void plus(Triggerwright scope, int more) {
        scope.putConstant(more);
        scope.combine(0);
    }

    private static void keptBounds() {
        terms("All results of operations are kept from -1000000 to 1000000.");
        kept(1000000, scope -> plus(scope, 0), 1000000);
        kept(999999, scope -> plus(scope, 1), 1000000);
        kept(1000000, scope -> plus(scope, 1), 1000000);
        kept(-1000000, scope -> plus(scope, 0), -1000000);
        kept(-999999, scope -> plus(scope, -1), -1000000);
        kept(-1000000, scope -> plus(scope, -1), -1000000);
        kept(999999, scope -> plus(scope, 0), 999999);
        kept(-999999, scope -> plus(scope, 0), -999999);
        kept(-1000000, scope -> scope.apply(0), 1000000, 1000000);
        kept(1000000, scope -> scope.apply(0), -1000000, -1000000);
        kept(-1000000, scope -> scope.apply(1), 1000000, 1000000);
        kept(500000, scope -> scope.apply(3), 500000, 1000000);
        kept(500001, scope -> scope.apply(3), 500001, 1000000);
        kept(-500001, scope -> scope.apply(3), -500001, -1000000);
        kept(1000000, scope -> {
            plus(scope, 1);
            plus(scope, -1);
        }, 999999);
        kept(-1000000, scope -> {
            plus(scope, -1);
            plus(scope, 1);
        }, -999999);
        keptDifferences();
    }

    /** A trace that goes from a number to its negative and back: its difference is twice as far. */
    private static void keptDifferences() {
        int[][] numbersAndDue = {{499999, 999998}, {500000, 1000000}, {500001, 1000000}, {1000000, 1000000}};
        for (int[] of : numbersAndDue) {
            for (int sign : new int[] {1, -1}) {
                Triggerwright scope = Scopes.holding(1, -1, 1);
                putNumber(scope, sign * of[0]);
                scope.putChannel(0);
                scope.combine(2);
                scope.apply(2);
                dueTrace("the difference by " + sign * of[0], scope, 0, -sign * of[1], sign * of[1]);
            }
        }
    }

    private static void product(int first, int second, int due) {
        Triggerwright scope = Scopes.holding(1);
        putNumber(scope, first);
        putNumber(scope, second);
        scope.combine(2);
        dueTrace(first + " times " + second, scope, due);
    }

    private static void keptThatWrap() {
        terms("All results of operations are kept from -1000000 to 1000000.");
        product(1000, 1000, 1000000);
        product(1001, 999, 999999);
        product(1001, 1000, 1000000);
        product(-1000, 1000, -1000000);
        product(-1001, 1000, -1000000);
        product(65536, 65536, 1000000);
        product(65536, -65536, -1000000);
        product(46341, 46341, 1000000);
        product(46341, -46341, -1000000);
        product(65536, 65537, 1000000);
        product(1000000, 1000000, 1000000);
        product(1000000, -1000000, -1000000);
        product(-1000000, -1000000, 1000000);
    }

    private static void sources() {
        terms("Sources of measurements are 0 and 1, the channels, and 2, the trace.");
        Triggerwright scope = Scopes.holding(5, -7, 9);
        scope.putConstant(50);
        Check.due("channel 0", scope.greatest(0, 0), 9);
        Check.due("channel 1", scope.greatest(0, 1), 7);
        Check.due("the trace", scope.greatest(0, 2), 50);
        Check.illegal("none below", () -> scope.greatest(0, -1));
        Check.illegal("none above", () -> scope.greatest(0, 3));
    }

    private static void changesNothing() {
        terms("A method that throws an exception changes nothing.");
        Situation.checkAll();
        for (Situation at : Situation.values()) {
            Refusals.illegal("setWidth with a bad last range", at, scope -> scope.setWidth(1, 5, 3, 2, false));
            Refusals.illegal("setRunt with a bad last range", at, scope -> scope.setRunt(1, 5, 4));
            Refusals.illegal("setSequence with a bad last range", at, scope -> scope.setSequence(3, 3, 101));
            Refusals.illegal("setEdge with a bad last range", at, scope -> scope.setEdge(1, 3, 101, false));
            Refusals.illegal("setLengths with a bad last range", at, scope -> scope.setLengths(9, 33));
            Refusals.illegal("setLengths with a bad first range", at, scope -> scope.setLengths(17, 9));
            Refusals.illegal("setMask with a bad last range", at, scope -> scope.setMask(0, 48, 100, 99));
            Refusals.illegal("setMask with a bad second range", at, scope -> scope.setMask(1, 0, 100, 100));
            Refusals.illegal("push with a bad last range", at, scope -> scope.push(9, 9, 51));
            Refusals.illegal("push with a bad second range", at, scope -> scope.push(9, 128, 50));
            Refusals.illegal("ramp with a bad last range", at, scope -> scope.ramp(9, 9, 9, 9, 51));
        }
    }

    private static void firstDocumented() {
        terms("If several exceptions apply, the one that is documented first is thrown.");
        Refusals.illegal("setLengths: the range, then the state", Situation.READY, scope -> scope.setLengths(17, 0));
        Refusals.illegal("setLengths: the range, then the state", Situation.READY, scope -> scope.setLengths(0, -1));
        Refusals.outside("value: the record, then the channel", Situation.FULL, scope -> scope.value(8, 2, 0));
        Refusals.outside("value: the position, then the channel", Situation.FULL, scope -> scope.value(7, 2, 2));
        for (int bad : new int[] {8, -1}) {
            Refusals.illegal("low: the channel, then the record", Situation.FULL, scope -> scope.low(bad, 2, 1, 0));
            Refusals.illegal("high: the channel, then the record", Situation.FULL, scope -> scope.high(bad, 2, 1, 0));
            Refusals.illegal("mean: the channel, then the record", Situation.FULL, scope -> scope.mean(bad, 2, 1, 0));
            Refusals.illegal("low: the size, then the group", Situation.FULL, scope -> scope.low(0, 0, 17, bad));
            Refusals.illegal("high: the size, then the group", Situation.FULL, scope -> scope.high(0, 0, 17, bad));
            Refusals.illegal("mean: the size, then the group", Situation.FULL, scope -> scope.mean(0, 0, 17, bad));
        }
        for (Situation at : new Situation[] {Situation.FULL, Situation.NEW}) {
            Refusals.illegal("apply: the operation, then the parts", at, scope -> scope.apply(4));
            Refusals.illegal("combine: the operation, then the parts", at, scope -> scope.combine(5));
        }
        Refusals.illegal("putChannel: the channel, then the parts", Situation.FULL, scope -> scope.putChannel(2));
        Refusals.illegal("putConstant: the value, then the parts", Situation.FULL, scope -> scope.putConstant(1001));
        Refusals.outside("trace: the record, then the stack", Situation.PULSE, scope -> scope.trace(2, 0));
        Refusals.outside("trace: the position, then the stack", Situation.PULSE, scope -> scope.trace(1, 3));
        firstOfMeasurements();
    }

    private static void firstOfMeasurements() {
        Situation at = Situation.PULSE;
        for (int source : new int[] {2, 3}) {
            Refusals.outside("least: the record first", at, scope -> scope.least(2, source));
            Refusals.outside("greatest: the record first", at, scope -> scope.greatest(2, source));
            Refusals.outside("average: the record first", at, scope -> scope.average(2, source));
            Refusals.outside("crossings: the record first", at, scope -> scope.crossings(2, source, 0));
            Refusals.outside("period: the record first", at, scope -> scope.period(2, source, 0));
            Refusals.outside("riseTime: the record first", at, scope -> scope.riseTime(2, source, 1, 1));
        }
        Refusals.illegal("period: the source, then the crossings", at, scope -> scope.period(0, 3, 0));
        Refusals.badState("period: the stack, then the crossings", at, scope -> scope.period(0, 2, 0));
        Refusals.illegal("riseTime: the source, then the value", at, scope -> scope.riseTime(0, 3, 0, 1));
        Refusals.illegal("riseTime: the bounds, then the stack", at, scope -> scope.riseTime(0, 2, 1, 1));
        Refusals.badState("riseTime: the stack, then the value", at, scope -> scope.riseTime(0, 2, 500, 501));
    }
}
