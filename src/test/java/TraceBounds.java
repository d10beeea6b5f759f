/** The boundaries of promises 28 to 33: the trace. */
final class TraceBounds {
    private static final String FULL = "Throws IllegalStateException if the expression has 16 parts";

    private TraceBounds() {
    }

    static void all() {
        putChannel();
        putConstant();
        applyParameter();
        applyRefused();
        negative();
        absolute();
        difference();
        sum();
        combineParameter();
        combineRefused();
        twoOperands();
        clearTrace();
        traceParameters();
        tracePositions();
        traceRefused();
    }

    /** A scope whose expression has so many parts, all on the stack. */
    private static Triggerwright withParts(int parts) {
        Triggerwright scope = Scopes.holding(5, -7);
        for (int k = 0; k < parts; k++) {
            scope.putConstant(k);
        }
        return scope;
    }

    private static void putChannel() {
        new Parameter(28, "channel: 0 or 1", "Throws IllegalArgumentException if channel is out of range",
            (scope, x) -> scope.putChannel(x)).range(0, 1);
        Check.sentence(28, FULL);
        Refusals.badState("putChannel", Situation.FULL, scope -> scope.putChannel(0));
        Check.badState("part 17 on a stack of 16", () -> withParts(16).putChannel(1));
        Check.taken("part 16", () -> withParts(15).putChannel(1));
        Check.sentence(28, "Puts a channel on the stack.");
        for (int channel : new int[] {0, 1}) {
            Triggerwright scope = withParts(0);
            scope.putChannel(channel);
            TraceTerms.dueTrace("channel " + channel, scope, 5 - 10 * channel, -7 + 14 * channel);
        }
        Check.sentence(28, "Returns the number of parts on the stack then.");
        Check.due("the first one", withParts(0).putChannel(0), 1);
        Check.due("the last one", withParts(15).putChannel(0), 16);
    }

    private static void putConstant() {
        new Parameter(29, "value: -1000 to 1000", "Throws IllegalArgumentException if value is out of range",
            (scope, x) -> scope.putConstant(x)).range(-1000, 1000);
        Check.sentence(29, FULL);
        Refusals.badState("putConstant", Situation.FULL, scope -> scope.putConstant(0));
        Check.badState("part 17 on a stack of 16", () -> withParts(16).putConstant(1));
        Check.taken("part 16", () -> withParts(15).putConstant(1));
        Check.sentence(29, "Puts a constant on the stack.");
        for (int value : new int[] {-1000, -1, 0, 1000}) {
            Triggerwright scope = withParts(0);
            scope.putConstant(value);
            TraceTerms.dueTrace("constant " + value, scope, value, value);
        }
        Check.sentence(29, "Returns the number of parts on the stack then.");
        Check.due("the first one", withParts(0).putConstant(0), 1);
        Check.due("the last one", withParts(15).putConstant(0), 16);
    }

    private static void applyParameter() {
        new Parameter(30, "operation: 0 to 3", "Throws IllegalArgumentException if operation is out of range",
            (scope, x) -> scope.apply(x)).takenAt(Situation.EXCURSION).range(0, 3);
    }

    private static void applyRefused() {
        Check.sentence(30, "Throws IllegalStateException if the expression has 16 parts, or there is no part on the stack");
        for (int operation = 0; operation <= 3; operation++) {
            int of = operation;
            Refusals.badState("16 parts", Situation.FULL, scope -> scope.apply(of));
            Refusals.badState("no part", Situation.NEW, scope -> scope.apply(of));
            Refusals.badState("no part", Situation.PULSE, scope -> scope.apply(of));
            Check.badState("part 17 on a stack of 16", () -> withParts(16).apply(of));
            Check.taken("part 16", () -> withParts(15).apply(of));
            Check.taken("one part on the stack", () -> withParts(1).apply(of));
        }
        Check.sentence(30, "Returns the number of parts on the stack then.");
        Check.due("one", withParts(1).apply(0), 1);
        Check.due("15", withParts(15).apply(0), 15);
    }

    /** Checks the trace of an operation on channel 0. */
    private static void applied(int operation, int[] values, int... due) {
        Triggerwright scope = Scopes.holding(values);
        scope.putChannel(0);
        scope.apply(operation);
        TraceTerms.dueTrace("operation " + operation + " on " + java.util.Arrays.toString(values), scope, due);
    }

    private static void negative() {
        Check.sentence(30, "Puts an operation with one operand on the stack: 0, its negative;");
        applied(0, new int[] {127, -128, 0, 1, -1}, -127, 128, 0, -1, 1);
    }

    private static void absolute() {
        Check.sentence(30, "1, its absolute value;");
        applied(1, new int[] {127, -128, 0, 1, -1}, 127, 128, 0, 1, 1);
    }

    private static void difference() {
        Check.sentence(30, "2, its difference: 0 for the first sample of a record, for each other one the operand less the"
            + " operand at the sample before;");
        applied(2, new int[] {9}, 0);
        applied(2, new int[] {127, -128, 127, 127}, 0, -255, 255, 0);
        Triggerwright scope = new Triggerwright();
        scope.setLengths(0, 1);
        scope.arm();
        Scopes.feed(scope, 0, 5, 7, 0, 20, 21);
        scope.putChannel(0);
        scope.apply(2);
        Check.due("the last sample of record 0", scope.trace(0, 1), 2);
        Check.due("the first sample of record 1", scope.trace(1, 0), 0);
        Check.due("the second sample of record 1", scope.trace(1, 1), 1);
        scope.apply(2);
        Check.due("the difference of the difference, first", scope.trace(1, 0), 0);
        Check.due("the difference of the difference, second", scope.trace(1, 1), 1);
    }

    private static void sum() {
        Check.sentence(30, "3, its sum: for each sample what the sum is for the sample before, as it was kept within the"
            + " bounds (0 before the first one), plus the operand.");
        applied(3, new int[] {9}, 9);
        applied(3, new int[] {127, -128, 127, 127}, 127, -1, 126, 253);
        for (int sign : new int[] {1, -1}) {
            Triggerwright scope = Scopes.holding(1, 1, 1, -1, 1);
            TraceTerms.putNumber(scope, sign * 400000);
            scope.putChannel(0);
            scope.combine(2);
            scope.apply(3);
            TraceTerms.dueTrace("kept, then plus the operand", scope,
                sign * 400000, sign * 800000, sign * 1000000, sign * 600000, sign * 1000000);
        }
        Triggerwright scope = new Triggerwright();
        scope.setLengths(0, 1);
        scope.arm();
        Scopes.feed(scope, 0, 5, 7, 0, 20, 21);
        scope.putChannel(0);
        scope.apply(3);
        Check.due("the last sample of record 0", scope.trace(0, 1), 12);
        Check.due("the first sample of record 1", scope.trace(1, 0), 20);
        Check.due("the second sample of record 1", scope.trace(1, 1), 41);
    }

    private static void combineParameter() {
        new Parameter(31, "operation: 0 to 4", "Throws IllegalArgumentException if operation is out of range",
            (scope, x) -> scope.combine(x)).takenAt(Situation.READY).range(0, 4);
    }

    private static void combineRefused() {
        Check.sentence(31, "Throws IllegalStateException if the expression has 16 parts, or there are less than two parts on"
            + " the stack");
        for (int operation = 0; operation <= 4; operation++) {
            int of = operation;
            Refusals.badState("16 parts", Situation.FULL, scope -> scope.combine(of));
            Refusals.badState("no part", Situation.NEW, scope -> scope.combine(of));
            Refusals.badState("one part", Situation.CATCHING, scope -> scope.combine(of));
            Refusals.badState("one part of 4", Situation.REMEMBERING, scope -> scope.combine(of));
            Check.badState("part 17 on a stack of 16", () -> withParts(16).combine(of));
            Check.taken("part 16", () -> withParts(15).combine(of));
            Check.taken("two parts on the stack", () -> withParts(2).combine(of));
        }
        Check.sentence(31, "Returns the number of parts on the stack then.");
        Check.due("one", withParts(2).combine(0), 1);
        Check.due("14", withParts(15).combine(0), 14);
    }

    /** Checks what the operations 0 to 4 make of channel 0 and channel 1, its negative. */
    private static void combined(int value, int... due) {
        for (int operation = 0; operation <= 4; operation++) {
            Triggerwright scope = Scopes.holding(value);
            scope.putChannel(0);
            scope.putConstant(3);
            scope.combine(operation);
            TraceTerms.dueTrace("operation " + operation + " on " + value + " and 3", scope, due[operation]);
        }
    }

    private static void twoOperands() {
        Check.sentence(31, "Puts an operation with two operands on the stack: 0, their sum; 1, the first less the second; 2,"
            + " their product; 3, the lesser one; 4, the greater one.");
        combined(2, 5, -1, 6, 2, 3);
        combined(3, 6, 0, 9, 3, 3);
        combined(4, 7, 1, 12, 3, 4);
        combined(0, 3, -3, 0, 0, 3);
        combined(-127, -124, -130, -381, -127, 3);
        combined(127, 130, 124, 381, 3, 127);
    }

    private static void clearTrace() {
        Check.sentence(32, "Empties the stack; the expression has no parts then.");
        for (Situation at : Situation.values()) {
            Triggerwright scope = at.make();
            scope.clearTrace();
            Check.due("no parts, " + at, scope.clearTrace(), 0);
            Check.badState("nothing on the stack, " + at, () -> scope.apply(0));
            for (int k = 1; k <= 16; k++) {
                Check.due("room for part " + k + ", " + at, scope.putChannel(0), k);
            }
            Check.badState("no room for part 17, " + at, () -> scope.putChannel(0));
        }
        Check.sentence(32, "Returns how many parts the expression had, those that were taken off the stack included.");
        for (Situation at : Situation.values()) {
            Check.due("clearTrace, " + at, at.make().clearTrace(), at.parts);
        }
        Triggerwright scope = withParts(8);
        for (int k = 1; k <= 7; k++) {
            scope.combine(0);
        }
        Check.due("8 and 7", scope.clearTrace(), 15);
        Check.due("16 on the stack", withParts(16).clearTrace(), 16);
        Check.badState("part 17", () -> withParts(16).putConstant(0));
    }

    private static void traceParameters() {
        Check.sentence(33, "record: its number");
        for (Situation at : new Situation[] {Situation.CATCHING, Situation.FULL, Situation.REMEMBERING}) {
            for (int record = 0; record < at.records; record++) {
                int r = record;
                Check.taken("record " + r + " at " + at, () -> at.make().trace(r, 0));
            }
        }
        Check.sentence(33, "Throws IndexOutOfBoundsException if there is no such record or no such position");
        for (Situation at : Situation.values()) {
            for (int bad : new int[] {-1, at.records, 8, Integer.MIN_VALUE, Integer.MAX_VALUE, 65536}) {
                Refusals.outside("record " + bad, at, scope -> scope.trace(bad, 0));
            }
        }
    }

    private static void tracePositions() {
        Check.sentence(33, "position: 0 for the first sample of the record");
        Triggerwright scope = Scopes.holding(5, 6, 7);
        scope.putChannel(0);
        Check.due("the first one", scope.trace(0, 0), 5);
        Check.due("the last one", scope.trace(0, 2), 7);
        Check.sentence(33, "Throws IndexOutOfBoundsException if there is no such record or no such position");
        for (Situation at : Situation.values()) {
            for (int record = 0; record < at.records; record++) {
                int r = record;
                for (int bad : new int[] {-1, at.make().length(r), 48, 49, Integer.MIN_VALUE, Integer.MAX_VALUE}) {
                    Refusals.outside("position " + bad + " of " + r, at, of -> of.trace(r, bad));
                }
            }
        }
        Triggerwright longest = RecordTerms.armed(16, 32);
        Scopes.pushMany(longest, 0, 16);
        Scopes.pushMany(longest, 1, 33);
        longest.putChannel(0);
        longest.apply(3);
        Check.due("position 48", longest.trace(0, 48), 33);
        Check.outside("position 49", () -> longest.trace(0, 49));
        Check.sentence(33, "Returns a value of the trace of a record.");
        longest.putConstant(0);
        longest.combine(2);
        Check.due("0 at 0", longest.trace(0, 0), 0);
        Check.sentence(33, "Returns the value.");
        Check.due("0 at 48", longest.trace(0, 48), 0);
    }

    private static void traceRefused() {
        Check.sentence(33, "Throws IllegalStateException if the stack has not just one part");
        Refusals.badState("an empty stack", Situation.PULSE, scope -> scope.trace(1, 2));
        Refusals.badState("three parts", Situation.EXCURSION, scope -> scope.trace(0, 0));
        Check.badState("no part", () -> withParts(0).trace(0, 0));
        Check.taken("one part", () -> withParts(1).trace(0, 0));
        Check.badState("two parts", () -> withParts(2).trace(0, 0));
        Check.badState("16 parts", () -> withParts(16).trace(0, 0));
        Check.due("16 parts, but the stack has one", Situation.FULL.make().trace(7, 0), 8);
    }
}
