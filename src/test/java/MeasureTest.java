/** Promises 34 to 39: measurements. */
public final class MeasureTest {
    private static final int MIN = Integer.MIN_VALUE;
    private static final int MAX = Integer.MAX_VALUE;

    public static void main(String[] args) {
        extremes();
        averages();
        counts();
        periods();
        riseTimes();
        anyLevels();
        recordRefused();
        sourceRefused();
        traceRefused();
        boundsRefused();
        nothingChanges();
        longThenShort();
        Check.finish("MeasureTest");
    }

    private static void extremes() {
        Triggerwright scope = Scopes.holding(5, -7, 9, 2);
        Check.due("34: least of channel 0", scope.least(0, 0), -7);
        Check.due("34: least of channel 1", scope.least(0, 1), -9);
        Check.due("35: greatest of channel 0", scope.greatest(0, 0), 9);
        Check.due("35: greatest of channel 1", scope.greatest(0, 1), 7);
        scope.putChannel(0);
        scope.putConstant(10);
        scope.combine(2);
        Check.due("34: least of the trace", scope.least(0, 2), -70);
        Check.due("35: greatest of the trace", scope.greatest(0, 2), 90);
        Triggerwright rising = Scopes.holding(1, 2, 3);
        Check.due("34: the first value", rising.least(0, 0), 1);
        Check.due("35: the last value", rising.greatest(0, 0), 3);
        Check.due("34: the last value", rising.least(0, 1), -3);
        Check.due("35: the first value", rising.greatest(0, 1), -1);
        Check.due("34: a record of one", Scopes.holding(4).least(0, 0), 4);
        Check.due("35: a record of one", Scopes.holding(4).greatest(0, 0), 4);
    }

    private static void averages() {
        Triggerwright scope = Scopes.holding(5, -7, 9);
        Check.due("36: of channel 0", scope.average(0, 0), 7.0 / 3.0);
        Check.due("36: of channel 1", scope.average(0, 1), -7.0 / 3.0);
        scope.putConstant(1000);
        scope.putChannel(0);
        scope.combine(2);
        scope.apply(3);
        Check.due("36: of the trace", scope.average(0, 2), 10000.0 / 3.0);
        Check.due("36: of one", Scopes.holding(4).average(0, 0), 4.0);
        Triggerwright much = new Triggerwright();
        much.setLengths(16, 32);
        much.arm();
        much.push(0, 0, 16);
        much.push(1, 0, 33);
        much.putConstant(1000);
        much.putConstant(1000);
        much.combine(2);
        much.putChannel(0);
        much.combine(1);
        Check.due("36: a great sum", much.average(0, 2), 48999967.0 / 49.0);
    }

    private static void counts() {
        Triggerwright scope = Scopes.holding(1, 0, 1, 1, 0, 0, 2, -1, 3);
        Check.due("37: the first value is no crossing", scope.crossings(0, 0, 0), 3);
        Check.due("37: level 1", scope.crossings(0, 0, 1), 2);
        Check.due("37: level 2", scope.crossings(0, 0, 2), 1);
        Check.due("37: level 3", scope.crossings(0, 0, 3), 0);
        Check.due("37: level -1", scope.crossings(0, 0, -1), 1);
        Check.due("37: channel 1", scope.crossings(0, 1, -1), 3);
        scope.putChannel(0);
        scope.putConstant(1000);
        scope.combine(2);
        Check.due("37: the trace", scope.crossings(0, 2, 1000), 2);
        Check.due("37: a record of one", Scopes.holding(4).crossings(0, 0, 3), 0);
        Check.due("37: at position 1", Scopes.holding(4, 5).crossings(0, 0, 4), 1);
    }

    private static void periods() {
        Triggerwright scope = Scopes.holding(1, 0, 1, 1, 0, 0, 2, -1, 3, 3);
        Check.due("38: 2, 6 and 8", scope.period(0, 0, 0), 3.0);
        Check.due("38: 6 and 8", scope.period(0, 0, 1), 2.0);
        Check.nothingThere("38: one crossing", () -> scope.period(0, 0, 2));
        Check.nothingThere("38: no crossing", () -> scope.period(0, 0, 3));
        Check.due("38: channel 1, 1, 4 and 7", scope.period(0, 1, -1), 3.0);
        scope.putChannel(0);
        scope.putConstant(1000);
        scope.combine(2);
        Check.due("38: the trace", scope.period(0, 2, 1000), 2.0);
        Triggerwright uneven = Scopes.holding(1, 0, 1, 0, 1, 0, 0, 1, 0);
        Check.due("38: 2, 4 and 7", uneven.period(0, 0, 0), 2.5);
    }

    private static void riseTimes() {
        Triggerwright scope = Scopes.holding(50, 5, 0, 6, 10, 20, 0, 20);
        Check.due("39: from the last low value", scope.riseTime(0, 0, 0, 20), 3);
        Check.due("39: the first high value", scope.riseTime(0, 0, 5, 10), 2);
        Check.due("39: at least high", scope.riseTime(0, 0, 0, 10), 2);
        Check.due("39: one step", scope.riseTime(0, 0, 5, 6), 1);
        Check.nothingThere("39: nothing as high behind a low one", () -> scope.riseTime(0, 0, 0, 21));
        Check.nothingThere("39: nothing as low", () -> scope.riseTime(0, 0, -1, 5));
        Check.due("39: channel 1", scope.riseTime(0, 1, -20, -6), 1);
        Check.due("39: channel 1", scope.riseTime(0, 1, -50, 0), 2);
        scope.putChannel(0);
        scope.putConstant(1000);
        scope.combine(2);
        Check.due("39: the trace", scope.riseTime(0, 2, 0, 20000), 3);
        Check.nothingThere("39: falling", () -> Scopes.holding(20, 10, 0).riseTime(0, 0, 0, 20));
        Check.due("39: the low value at position 0", Scopes.holding(1, 2, 3).riseTime(0, 0, 1, 3), 2);
        Check.nothingThere("39: the low value is the last one", () -> Scopes.holding(9, 1).riseTime(0, 0, 1, 2));
    }

    private static void anyLevels() {
        Triggerwright scope = Scopes.holding(5, -7, 9);
        Check.due("37: the least level", scope.crossings(0, 0, MIN), 0);
        Check.due("37: the greatest level", scope.crossings(0, 0, MAX), 0);
        Check.nothingThere("38: the least level", () -> scope.period(0, 0, MIN));
        Check.nothingThere("38: the greatest level", () -> scope.period(0, 0, MAX));
        Check.nothingThere("39: the widest levels", () -> scope.riseTime(0, 0, MIN, MAX));
        Check.due("39: from far below", scope.riseTime(0, 0, -7, 9), 1);
        Check.nothingThere("39: a low below all", () -> scope.riseTime(0, 0, MIN, 9));
        Check.nothingThere("39: a high above all", () -> scope.riseTime(0, 0, -7, MAX));
    }

    private static void refuse(Class<? extends RuntimeException> due, Triggerwright scope, int record, int source) {
        String with = " of " + record + ", " + source;
        Check.refused("34: least" + with, due, () -> scope.least(record, source));
        Check.refused("35: greatest" + with, due, () -> scope.greatest(record, source));
        Check.refused("36: average" + with, due, () -> scope.average(record, source));
        Check.refused("37: crossings" + with, due, () -> scope.crossings(record, source, 0));
        Check.refused("38: period" + with, due, () -> scope.period(record, source, 0));
        Check.refused("39: riseTime" + with, due, () -> scope.riseTime(record, source, 0, 1));
    }

    private static void recordRefused() {
        Triggerwright scope = Scopes.holding(5, -7, 9);
        for (int bad : new int[] {-1, 1, 8, MIN, MAX}) {
            refuse(IndexOutOfBoundsException.class, scope, bad, 0);
            refuse(IndexOutOfBoundsException.class, scope, bad, 2);
            refuse(IndexOutOfBoundsException.class, scope, bad, 3);
            Check.outside("39: the record comes first", () -> scope.riseTime(bad, 3, 1, 0));
        }
    }

    private static void sourceRefused() {
        Triggerwright scope = Scopes.holding(5, -7, 9);
        for (int bad : new int[] {-1, 3, MIN, MAX}) {
            refuse(IllegalArgumentException.class, scope, 0, bad);
        }
    }

    private static void traceRefused() {
        Triggerwright scope = Scopes.holding(5, -7, 9);
        refuse(IllegalStateException.class, scope, 0, 2);
        Check.due("34: the channels need no trace", scope.least(0, 0), -7);
        scope.putChannel(0);
        scope.putChannel(0);
        refuse(IllegalStateException.class, scope, 0, 2);
        Check.due("35: the channels need no trace", scope.greatest(0, 1), 7);
        Check.badState("38: the trace comes before the crossings", () -> scope.period(0, 2, MAX));
    }

    private static void boundsRefused() {
        Triggerwright scope = Scopes.holding(5, -7, 9);
        Check.illegal("39: high equal to low", () -> scope.riseTime(0, 0, 3, 3));
        Check.illegal("39: high less than low", () -> scope.riseTime(0, 0, 3, 2));
        Check.illegal("39: high less than low", () -> scope.riseTime(0, 0, MAX, MIN));
        Check.illegal("39: the bounds come before the trace", () -> scope.riseTime(0, 2, 3, 3));
        Check.badState("39: the trace comes before the values", () -> scope.riseTime(0, 2, 500, 501));
    }

    private static void nothingChanges() {
        Triggerwright scope = Scopes.holding(5, -7, 9);
        scope.putChannel(0);
        scope.apply(3);
        Check.due("34: the trace", scope.least(0, 2), -2);
        Check.due("34: channel 0", scope.least(0, 0), -7);
        Check.due("33: the trace is still there", scope.trace(0, 2), 7);
        Check.due("19: the record is still there", scope.value(0, 0, 1), -7);
        Check.due("34: the trace again", scope.least(0, 2), -2);
        Check.due("14: samples", scope.samples(), 4);
    }

    /** What was measured in a longer record must not show in a shorter one. */
    private static void longThenShort() {
        Triggerwright scope = new Triggerwright();
        scope.setLengths(16, 32);
        scope.arm();
        scope.push(0, 0, 18);
        for (int k = 0; k < 16; k++) {
            Scopes.feed(scope, 20, 0);
        }
        Scopes.feed(scope, 30);
        measureLong(scope, 0);
        scope.putChannel(0);
        measureLong(scope, 2);
        scope.disarm();
        scope.setLengths(0, 15);
        scope.arm();
        for (int k = 0; k < 16; k++) {
            scope.push(Math.min(k, 2), 0, 1);
        }
        scope.push(0, 0, 1);
        Check.due("18: a record of 16", scope.length(0), 16);
        Check.due("34: least", scope.least(0, 0), 0);
        Check.due("35: greatest", scope.greatest(0, 0), 2);
        Check.due("36: average, 29 / 16", scope.average(0, 0), 29.0 / 16.0);
        Check.due("37: crossings", scope.crossings(0, 0, 1), 1);
        Check.nothingThere("38: period", () -> scope.period(0, 0, 1));
        Check.nothingThere("39: riseTime", () -> scope.riseTime(0, 0, 0, 20));
    }

    private static void measureLong(Triggerwright scope, int source) {
        Check.due("18: a record of 49", scope.length(0), 49);
        Check.due("34: least", scope.least(0, source), 0);
        Check.due("35: greatest", scope.greatest(0, source), 30);
        Check.due("36: average", scope.average(0, source), 350.0 / 49.0);
        Check.due("37: crossings", scope.crossings(0, source, 0), 17);
        Check.due("38: period", scope.period(0, source, 0), 2.0);
        Check.due("39: riseTime", scope.riseTime(0, source, 0, 30), 1);
    }
}
