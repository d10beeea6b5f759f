/** Promises 16 to 23: questions about records. */
public final class RecordsTest {
    private static final int MIN = Integer.MIN_VALUE;
    private static final int MAX = Integer.MAX_VALUE;

    public static void main(String[] args) {
        counting();
        values();
        valueRefuses();
        groups();
        means();
        groupsRefuse();
        longRecord();
        rescanning();
        rescanBeginsAnew();
        Check.finish("RecordsTest");
    }

    private static void counting() {
        Triggerwright scope = new Triggerwright();
        scope.setLengths(1, 1);
        scope.arm();
        Scopes.feed(scope, 0, 1);
        Check.due("16: one being caught doesn't count", scope.records(), 0);
        Check.outside("17: nor has it a trigger", () -> scope.trigger(0));
        Check.outside("18: nor a length", () -> scope.length(0));
        Scopes.feed(scope, 1, 0, 1, 1);
        Check.due("16: records", scope.records(), 2);
        Check.due("17: trigger 0", scope.trigger(0), 1);
        Check.due("17: trigger 1", scope.trigger(1), 4);
        Check.due("18: length 0", scope.length(0), 3);
        Check.due("18: length 1", scope.length(1), 3);
        for (int bad : new int[] {-1, 2, 8, 1000, MIN, MAX}) {
            Check.outside("17: trigger " + bad, () -> scope.trigger(bad));
            Check.outside("18: length " + bad, () -> scope.length(bad));
            Check.outside("23: rescan " + bad, () -> scope.rescan(bad));
        }
    }

    private static void values() {
        Triggerwright scope = Scopes.holding(10, 20, -30, 40);
        int[] due = {10, 20, -30, 40};
        for (int k = 0; k < 4; k++) {
            Check.due("19: channel 0 at " + k, scope.value(0, 0, k), due[k]);
            Check.due("19: channel 1 at " + k, scope.value(0, 1, k), -due[k]);
        }
        scope.push(99, 99, 50);
        Check.due("19: later samples change nothing", scope.value(0, 0, 0), 10);
    }

    private static void valueRefuses() {
        Triggerwright scope = Scopes.holding(10, 20, -30, 40);
        for (int bad : new int[] {-1, 1, 8, MIN, MAX}) {
            Check.outside("19: value record " + bad, () -> scope.value(bad, 0, 0));
        }
        for (int bad : new int[] {-1, 4, 49, MIN, MAX}) {
            Check.outside("19: value position " + bad, () -> scope.value(0, 0, bad));
        }
        for (int bad : new int[] {-1, 2, MIN, MAX}) {
            Check.illegal("19: value channel " + bad, () -> scope.value(0, bad, 0));
            Check.outside("19: the record comes first", () -> scope.value(1, bad, 0));
            Check.outside("19: the position comes first", () -> scope.value(0, bad, 4));
        }
    }

    private static void groups() {
        Triggerwright scope = Scopes.holding(3, 1, 2, 9, 7, 8, -5);
        Check.due("20: low of the first group", scope.low(0, 0, 3, 0), 1);
        Check.due("20: low of the second", scope.low(0, 0, 3, 1), 7);
        Check.due("20: low of the last, as many as there are", scope.low(0, 0, 3, 2), -5);
        Check.due("20: low of all", scope.low(0, 0, 16, 0), -5);
        Check.due("20: low of one", scope.low(0, 0, 1, 3), 9);
        Check.due("20: low of channel 1", scope.low(0, 1, 3, 0), -3);
        Check.due("21: high of the first group", scope.high(0, 0, 3, 0), 3);
        Check.due("21: high of the second", scope.high(0, 0, 3, 1), 9);
        Check.due("21: high of the last, as many as there are", scope.high(0, 0, 3, 2), -5);
        Check.due("21: high of all", scope.high(0, 0, 16, 0), 9);
        Check.due("21: high of one", scope.high(0, 0, 1, 1), 1);
        Check.due("21: high of channel 1", scope.high(0, 1, 3, 0), -1);
        Check.due("21: high of channel 1, the last", scope.high(0, 1, 3, 2), 5);
    }

    private static void means() {
        Triggerwright scope = Scopes.holding(3, 1, 2, 9, 7, 9, -5, -4);
        Check.due("22: mean of 3, 1, 2", scope.mean(0, 0, 3, 0), 2);
        Check.due("22: mean of 9, 7, 9, rounded down", scope.mean(0, 0, 3, 1), 8);
        Check.due("22: mean of -5, -4, rounded down", scope.mean(0, 0, 3, 2), -5);
        Check.due("22: mean of one", scope.mean(0, 0, 1, 7), -4);
        Check.due("22: mean of channel 1", scope.mean(0, 1, 3, 1), -9);
        Check.due("22: mean of all, 22 / 8", scope.mean(0, 0, 16, 0), 2);
        Check.due("22: mean of all of channel 1, -22 / 8", scope.mean(0, 1, 16, 0), -3);
    }

    private static void groupsRefuse() {
        Triggerwright scope = Scopes.holding(3, 1, 2, 9, 7, 8);
        for (int bad : new int[] {-1, 2, MIN, MAX}) {
            refuse(scope, true, 0, bad, 1, 0);
            refuse(scope, true, 9, bad, 1, 99);
        }
        for (int bad : new int[] {0, 17, -1, MIN, MAX}) {
            refuse(scope, true, 0, 0, bad, 0);
            refuse(scope, true, -1, 0, bad, -1);
        }
        for (int bad : new int[] {-1, 1, 8, MIN, MAX}) {
            refuse(scope, false, bad, 0, 1, 0);
        }
        for (int bad : new int[] {-1, 2, 3, MIN, MAX, 1 << 28, 1 << 30}) {
            refuse(scope, false, 0, 0, 3, bad);
            refuse(scope, false, 0, 1, 16, bad);
        }
        refuse(scope, false, 0, 0, 6, 1);
        refuse(scope, false, 0, 0, 1, 6);
    }

    private static void refuse(Triggerwright scope, boolean illegal, int record, int channel, int size, int group) {
        Class<? extends RuntimeException> due =
            illegal ? IllegalArgumentException.class : IndexOutOfBoundsException.class;
        String with = " of " + record + ", " + channel + ", " + size + ", " + group;
        Check.refused("20: low" + with, due, () -> scope.low(record, channel, size, group));
        Check.refused("21: high" + with, due, () -> scope.high(record, channel, size, group));
        Check.refused("22: mean" + with, due, () -> scope.mean(record, channel, size, group));
    }

    private static void longRecord() {
        Triggerwright scope = new Triggerwright();
        scope.setLengths(16, 32);
        scope.arm();
        scope.ramp(-15, 0, 1, 0, 50);
        scope.push(40, 0, 2);
        Check.due("18: length", scope.length(0), 49);
        Check.due("17: trigger", scope.trigger(0), 16);
        Check.due("20: the group of one sample at the end", scope.low(0, 0, 16, 3), 33);
        Check.due("22: its mean", scope.mean(0, 0, 16, 3), 33);
        Check.due("21: the group before it", scope.high(0, 0, 16, 2), 32);
        Check.due("22: the mean of the first group, -120 / 16", scope.mean(0, 0, 16, 0), -8);
        Check.outside("20: no fifth group", () -> scope.low(0, 0, 16, 4));
    }

    private static void rescanning() {
        Triggerwright scope = Scopes.holding(1, 0, 1, 0, 2, 2, 0, 9, 1, 0, 1);
        scope.setEdge(0, 0, 0, true);
        Check.due("23: rising edges", scope.rescan(0), 4);
        scope.setEdge(0, 0, 1, false);
        Check.due("23: falling edges", scope.rescan(0), 0);
        scope.setEdge(0, 1, 0, false);
        Check.due("23: falling edges", scope.rescan(0), 4);
        scope.setWidth(0, 0, 2, 2, true);
        Check.due("23: widths", scope.rescan(0), 2);
        scope.setRunt(0, 0, 2);
        Check.due("23: runts", scope.rescan(0), 2);
        scope.setEdge(1, -1, 0, true);
        Check.due("23: channel 1", scope.rescan(0), 4);
        scope.setSequence(0, -1, 1);
        Check.due("23: sequence", scope.rescan(0), 1);
        scope.setSequence(0, -1, 2);
        Check.due("23: sequence with a longer span", scope.rescan(0), 3);
    }

    private static void rescanBeginsAnew() {
        Triggerwright scope = new Triggerwright();
        scope.setLengths(0, 2);
        scope.arm();
        Scopes.feed(scope, 0, 1, 1, 1);
        Check.due("23: the sample before the record isn't looked at", scope.rescan(0), 0);
        Check.due("23: fired stays", scope.fired(), 1);
        Scopes.feed(scope, 0);
        Check.due("23: none still", scope.rescan(0), 0);
        Check.due("23: the condition stays ready", Scopes.firings(scope, 1), 1);
        Check.due("23: the record being caught stays", scope.isCatching(), true);
        Scopes.feed(scope, 0, 1);
        Check.due("23: one in the second record", scope.rescan(1), 1);
        Check.due("23: again the same", scope.rescan(1), 1);
        scope.setSequence(0, -1, 50);
        Check.due("23: the present settings", scope.rescan(1), 0);
        Check.due("23: samples stay", scope.samples(), 8);
        Check.due("23: records stay", scope.records(), 2);
    }
}
