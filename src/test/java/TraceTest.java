/** Promises 28 to 33: the trace. */
public final class TraceTest {
    private static final int MIN = Integer.MIN_VALUE;
    private static final int MAX = Integer.MAX_VALUE;

    public static void main(String[] args) {
        operands();
        oneOperand();
        twoOperands();
        operandOrder();
        differences();
        sums();
        keptWithinBounds();
        sixteenParts();
        refusals();
        traceRefuses();
        clearing();
        expressionStays();
        Check.finish("TraceTest");
    }

    private static void dueTrace(String call, Triggerwright scope, int... due) {
        for (int k = 0; k < due.length; k++) {
            Check.due(call + " at " + k, scope.trace(0, k), due[k]);
        }
    }

    private static void operands() {
        Triggerwright scope = Scopes.holding(5, -7, 9);
        Check.due("28: putChannel", scope.putChannel(0), 1);
        dueTrace("28: channel 0", scope, 5, -7, 9);
        scope.clearTrace();
        Check.due("28: putChannel", scope.putChannel(1), 1);
        dueTrace("28: channel 1", scope, -5, 7, -9);
        scope.clearTrace();
        Check.due("29: putConstant", scope.putConstant(-1000), 1);
        dueTrace("29: a constant", scope, -1000, -1000, -1000);
        Check.due("29: two parts", scope.putConstant(1000), 2);
        Check.due("28: three parts", scope.putChannel(1), 3);
        for (int bad : new int[] {-1, 2, MIN, MAX}) {
            Check.illegal("28: putChannel " + bad, () -> scope.putChannel(bad));
        }
        for (int bad : new int[] {-1001, 1001, MIN, MAX}) {
            Check.illegal("29: putConstant " + bad, () -> scope.putConstant(bad));
        }
        Check.due("32: refused ones don't count", scope.clearTrace(), 3);
    }

    private static void oneOperand() {
        Triggerwright scope = Scopes.holding(5, -7, 0, 9);
        scope.putChannel(0);
        Check.due("30: apply", scope.apply(0), 1);
        dueTrace("30: the negative", scope, -5, 7, 0, -9);
        scope.clearTrace();
        scope.putChannel(0);
        scope.apply(1);
        dueTrace("30: the absolute value", scope, 5, 7, 0, 9);
        scope.putChannel(1);
        Check.due("30: apply takes the top part", scope.apply(1), 2);
        for (int bad : new int[] {-1, 4, MIN, MAX}) {
            Check.illegal("30: apply " + bad, () -> scope.apply(bad));
        }
    }

    private static void twoOperands() {
        int[][] due = {{8, -4}, {2, -10}, {15, -21}, {3, -7}, {5, 3}};
        for (int operation = 0; operation < 5; operation++) {
            Triggerwright scope = Scopes.holding(5, -7);
            scope.putChannel(0);
            scope.putConstant(3);
            Check.due("31: combine " + operation, scope.combine(operation), 1);
            dueTrace("31: operation " + operation, scope, due[operation]);
        }
        Triggerwright scope = new Triggerwright();
        scope.putChannel(0);
        scope.putChannel(0);
        scope.putChannel(0);
        Check.due("31: takes two, puts one", scope.combine(0), 2);
        for (int bad : new int[] {-1, 5, MIN, MAX}) {
            Check.illegal("31: combine " + bad, () -> scope.combine(bad));
        }
    }

    private static void operandOrder() {
        Triggerwright scope = Scopes.holding(5, -7);
        scope.putConstant(100);
        scope.putConstant(10);
        scope.putChannel(0);
        scope.combine(1);
        scope.combine(1);
        dueTrace("31: 100 - (10 - channel 0)", scope, 95, 83);
        scope.clearTrace();
        scope.putConstant(100);
        scope.putConstant(10);
        scope.combine(1);
        scope.putChannel(0);
        scope.apply(0);
        scope.combine(1);
        dueTrace("31: (100 - 10) - (- channel 0)", scope, 95, 83);
    }

    private static void differences() {
        Triggerwright scope = Scopes.holding(5, -7, 9, 9);
        scope.putChannel(0);
        scope.apply(2);
        dueTrace("30: the difference", scope, 0, -12, 16, 0);
        dueTrace("33: again the same", scope, 0, -12, 16, 0);
        Check.due("33: any order", scope.trace(0, 2), 16);
        scope.apply(2);
        dueTrace("30: the difference of the difference", scope, 0, -12, 28, -16);
        scope.putChannel(1);
        scope.apply(2);
        scope.combine(0);
        dueTrace("30: two differences", scope, 0, 0, 12, -16);
        Check.due("32: the parts", scope.clearTrace(), 6);
    }

    private static void sums() {
        Triggerwright scope = Scopes.holding(5, -7, 9, 9);
        scope.putChannel(0);
        scope.apply(3);
        dueTrace("30: the sum", scope, 5, -2, 7, 16);
        dueTrace("33: again the same", scope, 5, -2, 7, 16);
        scope.apply(3);
        dueTrace("30: the sum of the sum", scope, 5, 3, 10, 26);
        scope.putChannel(1);
        scope.apply(3);
        scope.combine(1);
        dueTrace("30: two sums", scope, 10, 1, 17, 42);
    }

    private static void keptWithinBounds() {
        Triggerwright scope = Scopes.holding(1, -2, -2);
        scope.putConstant(1000);
        scope.putConstant(1000);
        scope.combine(2);
        dueTrace("31: a million", scope, 1000000, 1000000);
        scope.putConstant(1);
        scope.combine(0);
        dueTrace("31: the sum is kept", scope, 1000000);
        scope.apply(0);
        scope.putConstant(1);
        scope.combine(1);
        dueTrace("31: less is kept", scope, -1000000);
        scope.putConstant(1000);
        scope.combine(2);
        dueTrace("31: a product is kept", scope, -1000000);
        scope.putConstant(5);
        scope.combine(0);
        dueTrace("31: what was kept counts", scope, -999995);
        scope.clearTrace();
        bigProduct(scope);
        dueTrace("31: a product beyond ints", scope, 1000000, 1000000);
        scope.clearTrace();
        scope.putConstant(1000);
        scope.putConstant(1000);
        scope.combine(2);
        scope.putChannel(0);
        scope.combine(2);
        scope.apply(2);
        dueTrace("30: a difference is kept", scope, 0, -1000000, 0);
        scope.clearTrace();
        scope.putChannel(0);
        scope.putConstant(600);
        scope.putConstant(1000);
        scope.combine(2);
        scope.combine(2);
        scope.apply(3);
        dueTrace("30: a sum goes on from what was kept", scope, 600000, -400000, -1000000);
    }

    /** Puts a million times a million on the stack. */
    private static void bigProduct(Triggerwright scope) {
        for (int k = 0; k < 2; k++) {
            scope.putConstant(-1000);
            scope.putConstant(1000);
            scope.combine(2);
        }
        scope.combine(2);
    }

    private static void sixteenParts() {
        Triggerwright scope = Scopes.holding(5, 6);
        for (int k = 1; k <= 16; k++) {
            Check.due("28: part " + k, k % 2 == 0 ? scope.putChannel(0) : scope.putConstant(1), k);
        }
        refuseAll(scope);
        Check.due("32: 16 parts", scope.clearTrace(), 16);
        scope.putChannel(0);
        for (int k = 2; k <= 15; k++) {
            scope.apply(0);
        }
        Check.due("30: the 16th part", scope.apply(0), 1);
        dueTrace("30: 15 negatives", scope, -5, -6);
        refuseAll(scope);
        dueTrace("30: refused ones change nothing", scope, -5, -6);
        Check.due("32: 16 parts, those taken off included", scope.clearTrace(), 16);
        for (int k = 1; k <= 8; k++) {
            scope.putChannel(0);
        }
        for (int k = 7; k >= 1; k--) {
            Check.due("31: combine to " + k, scope.combine(0), k);
        }
        dueTrace("31: 8 times", scope, 40, 48);
        Check.due("30: the 16th part", scope.apply(0), 1);
        Check.due("32: 16 parts", scope.clearTrace(), 16);
    }

    private static void refuseAll(Triggerwright scope) {
        Check.badState("28: putChannel beyond 16", () -> scope.putChannel(0));
        Check.badState("29: putConstant beyond 16", () -> scope.putConstant(0));
        Check.badState("30: apply beyond 16", () -> scope.apply(0));
        Check.badState("31: combine beyond 16", () -> scope.combine(0));
        Check.illegal("28: the range comes first", () -> scope.putChannel(2));
        Check.illegal("29: the range comes first", () -> scope.putConstant(1001));
        Check.illegal("30: the range comes first", () -> scope.apply(4));
        Check.illegal("31: the range comes first", () -> scope.combine(5));
    }

    private static void refusals() {
        Triggerwright scope = new Triggerwright();
        Check.badState("30: apply on nothing", () -> scope.apply(0));
        Check.illegal("30: the range comes first", () -> scope.apply(-1));
        Check.badState("31: combine on nothing", () -> scope.combine(0));
        Check.illegal("31: the range comes first", () -> scope.combine(-1));
        scope.putChannel(0);
        Check.badState("31: combine on one", () -> scope.combine(4));
        Check.due("30: refused ones change nothing", scope.apply(0), 1);
        Check.due("32: two parts", scope.clearTrace(), 2);
    }

    private static void traceRefuses() {
        Triggerwright scope = Scopes.holding(5, 6);
        Check.badState("33: an empty stack", () -> scope.trace(0, 0));
        for (int bad : new int[] {-1, 1, 8, MIN, MAX}) {
            Check.outside("33: record " + bad, () -> scope.trace(bad, 0));
        }
        for (int bad : new int[] {-1, 2, 49, MIN, MAX}) {
            Check.outside("33: position " + bad + " comes first", () -> scope.trace(0, bad));
        }
        scope.putChannel(0);
        for (int bad : new int[] {-1, 2, 49, MIN, MAX}) {
            Check.outside("33: position " + bad, () -> scope.trace(0, bad));
        }
        scope.putChannel(0);
        Check.badState("33: two parts", () -> scope.trace(0, 0));
        Check.outside("33: the record comes first", () -> scope.trace(1, 0));
        scope.combine(0);
        Check.due("33: one part again", scope.trace(0, 1), 12);
    }

    private static void clearing() {
        Triggerwright scope = Scopes.holding(5, 6);
        Check.due("32: nothing", scope.clearTrace(), 0);
        scope.putChannel(0);
        scope.putChannel(0);
        scope.combine(0);
        Check.due("32: those taken off included", scope.clearTrace(), 3);
        Check.due("32: none then", scope.clearTrace(), 0);
        Check.badState("33: the stack is empty", () -> scope.trace(0, 0));
        Check.due("32: a new expression", scope.putConstant(7), 1);
        dueTrace("32: is computed", scope, 7, 7);
    }

    private static void expressionStays() {
        Triggerwright scope = new Triggerwright();
        scope.putChannel(0);
        scope.setLengths(0, 1);
        scope.arm();
        Scopes.feed(scope, 0, 3, 4, 0, 5, 6);
        Check.due("33: arming keeps the expression", scope.trace(0, 1), 4);
        Check.due("33: of each record", scope.trace(1, 1), 6);
        scope.apply(3);
        Check.due("33: records don't run into one another", scope.trace(1, 0), 5);
        Check.due("33: records don't run into one another", scope.trace(0, 1), 7);
    }
}
