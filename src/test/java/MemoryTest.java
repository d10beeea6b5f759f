/** Promises 1 and 6 to 11: a new object and the memory. */
public final class MemoryTest {
    private static final int MIN = Integer.MIN_VALUE;
    private static final int MAX = Integer.MAX_VALUE;

    public static void main(String[] args) {
        newObject();
        lengths();
        lengthsRefuse();
        preLength();
        postLength();
        holdoff();
        holdoffRefuses();
        arming();
        armingForgets();
        disarming();
        catching();
        eightRecords();
        Check.finish("MemoryTest");
    }

    private static void newObject() {
        Triggerwright scope = new Triggerwright();
        Check.due("1: isArmed", scope.isArmed(), false);
        Check.due("1: isCatching", scope.isCatching(), false);
        Check.due("1: records", scope.records(), 0);
        Check.due("1: samples", scope.samples(), 0);
        Check.due("1: fired", scope.fired(), 0);
        Check.due("1: failures", scope.failures(), 0);
        Check.due("1: disarm", scope.disarm(), false);
        Check.due("1: clearTrace", scope.clearTrace(), 0);
        Check.due("1: setHoldoff", scope.setHoldoff(0), 0);
        Check.nothingThere("1: firstOffence", () -> scope.firstOffence());
        Check.outside("1: trigger", () -> scope.trigger(0));
        scope.arm();
        Scopes.feed(scope, 0, 0, 0, 0, 1, 1, 1, 1, 1, 1, 1, 1);
        Check.due("1: 7 samples behind are too few", scope.records(), 0);
        Scopes.feed(scope, 1);
        Check.due("1: 8 samples behind", scope.records(), 1);
        Check.due("1: 4 before and 8 behind", scope.length(0), 13);
        Triggerwright other = new Triggerwright();
        Check.due("1: objects share nothing", other.records() + other.samples() + other.fired(), 0);
    }

    private static void lengths() {
        Triggerwright scope = new Triggerwright();
        scope.setLengths(16, 32);
        scope.arm();
        scope.push(0, 7, 20);
        scope.push(5, 9, 33);
        Check.due("6: the longest record", scope.length(0), 49);
        Check.due("6: its trigger", scope.trigger(0), 20);
        Check.due("6: the sample before its trigger", scope.value(0, 0, 15), 0);
        Check.due("6: its trigger sample", scope.value(0, 0, 16), 5);
        Check.due("6: its last sample", scope.value(0, 1, 48), 9);
        scope.disarm();
        scope.setLengths(0, 0);
        Check.due("6: a complete record keeps its length", scope.length(0), 49);
        Check.due("6: and its samples", scope.value(0, 1, 0), 7);
        scope.arm();
        Scopes.feed(scope, 0, 1);
        Check.due("6: the shortest record", scope.length(0), 1);
    }

    private static void lengthsRefuse() {
        Triggerwright scope = new Triggerwright();
        for (int bad : new int[] {-1, 17, MIN, MAX}) {
            Check.illegal("6: setLengths pre " + bad, () -> scope.setLengths(bad, 0));
        }
        for (int bad : new int[] {-1, 33, MIN, MAX}) {
            Check.illegal("6: setLengths post " + bad, () -> scope.setLengths(0, bad));
        }
        scope.setLengths(1, 2);
        scope.arm();
        Check.badState("6: setLengths when armed", () -> scope.setLengths(0, 0));
        Check.illegal("6: the range comes first", () -> scope.setLengths(17, 0));
        Check.illegal("6: the range comes first", () -> scope.setLengths(0, 33));
        Scopes.feed(scope, 0, 1, 1, 1);
        Check.due("6: a refused call leaves the lengths", scope.length(0), 4);
        scope.disarm();
        Check.illegal("6: both or none", () -> scope.setLengths(5, 33));
        scope.arm();
        Scopes.feed(scope, 0, 1, 1, 1);
        Check.due("6: a refused call leaves the lengths", scope.length(0), 4);
    }

    private static void preLength() {
        Triggerwright scope = new Triggerwright();
        scope.setLengths(3, 0);
        scope.arm();
        Check.due("6: 2 samples before are too few", Scopes.feed(scope, 0, 0, 1), 0);
        Check.due("6: 4 samples before", Scopes.feed(scope, 0, 1), 1);
        Triggerwright exact = new Triggerwright();
        exact.setLengths(3, 0);
        exact.arm();
        Check.due("6: 3 samples before", Scopes.feed(exact, 0, 0, 0, 1), 1);
        Check.due("17: its trigger", exact.trigger(0), 3);
        Triggerwright late = new Triggerwright();
        late.setLengths(3, 0);
        Scopes.feed(late, 8, 9, 0);
        late.arm();
        Check.due("6: samples before it was armed count", Scopes.feed(late, 1), 1);
        Check.due("6: and belong to the record", late.value(0, 0, 0), 8);
    }

    private static void postLength() {
        Triggerwright scope = new Triggerwright();
        scope.setLengths(0, 2);
        scope.arm();
        Check.due("6: one behind is too few", Scopes.feed(scope, 0, 1, 0), 0);
        Check.due("6: the last sample cannot be a trigger", Scopes.feed(scope, 1), 1);
        Check.due("11: it is not catching", scope.isCatching(), false);
        Check.due("15: but it fired", scope.fired(), 2);
        Scopes.feed(scope, 0, 1);
        Check.due("11: the sample behind it can be", scope.isCatching(), true);
        Triggerwright dense = new Triggerwright();
        dense.setLengths(0, 1);
        dense.setSequence(0, 0, 0);
        dense.arm();
        Scopes.feedPairs(dense, 0, 0, 1, 1, 0, 0, 1, 1, 0, 0);
        Check.due("6: a trigger right behind a record", dense.records(), 2);
        Check.due("17: its number", dense.trigger(1), 3);
    }

    private static void holdoff() {
        Triggerwright scope = new Triggerwright();
        scope.setLengths(0, 0);
        Check.due("7: the holdoff before", scope.setHoldoff(4), 0);
        Check.due("7: the holdoff before", scope.setHoldoff(3), 4);
        scope.arm();
        Scopes.feed(scope, 0, 1, 0, 0, 1);
        Check.due("7: 3 is not more than 3", scope.records(), 1);
        Scopes.feed(scope, 0, 1);
        Check.due("7: the next one counts from the trigger", scope.records(), 2);
        Check.due("7: its trigger", scope.trigger(1), 6);
        Scopes.feed(scope, 0, 0, 0, 1);
        Check.due("7: 4 is more than 3", scope.records(), 3);
        scope.setHoldoff(0);
        Scopes.feed(scope, 0, 1);
        Check.due("7: it may change when armed", scope.records(), 4);
        scope.setHoldoff(1000);
        scope.arm();
        Scopes.feed(scope, 0, 1);
        Check.due("8: the latest trigger is forgotten", scope.records(), 1);
        for (int k = 0; k < 19; k++) {
            scope.push(0, 0, 50);
        }
        scope.push(0, 0, 49);
        Scopes.feed(scope, 1);
        Check.due("7: 1000 is not more than 1000", scope.records(), 1);
        Scopes.feed(scope, 0, 1);
        Check.due("7: 1002 is", scope.records(), 2);
        Check.due("7: the holdoff stays over arming", scope.setHoldoff(0), 1000);
    }

    private static void holdoffRefuses() {
        Triggerwright scope = new Triggerwright();
        scope.setHoldoff(9);
        for (int bad : new int[] {-1, 1001, MIN, MAX}) {
            Check.illegal("7: setHoldoff " + bad, () -> scope.setHoldoff(bad));
        }
        Check.due("7: a refused call changes nothing", scope.setHoldoff(1000), 9);
        Check.due("7: 1000 is allowed", scope.setHoldoff(0), 1000);
    }

    private static void arming() {
        Triggerwright scope = new Triggerwright();
        scope.setLengths(0, 1);
        Check.due("8: nothing to drop", scope.arm(), 0);
        Check.due("10: isArmed", scope.isArmed(), true);
        Scopes.feed(scope, 0, 1, 0, 1, 1, 0, 1);
        Check.due("16: records", scope.records(), 2);
        Check.due("11: one more is being caught", scope.isCatching(), true);
        Check.due("8: complete records alone count", scope.arm(), 2);
        Check.due("8: the one being caught is dropped", scope.isCatching(), false);
        Check.due("8: no records", scope.records(), 0);
        Check.due("10: still armed", scope.isArmed(), true);
        Check.outside("8: record 0 is dropped", () -> scope.length(0));
        Check.due("8: the dropped one doesn't go on", Scopes.feed(scope, 0, 0, 0), 0);
        Check.due("8: again", scope.arm(), 0);
    }

    private static void armingForgets() {
        Triggerwright scope = new Triggerwright();
        scope.setLengths(0, 0);
        scope.setMask(0, 0, -5, 5);
        scope.arm();
        Scopes.feed(scope, 0, 9);
        Check.due("26: failures", scope.failures(), 1);
        Check.due("27: firstOffence", scope.firstOffence(), 0);
        scope.arm();
        Check.due("8: failures are forgotten", scope.failures(), 0);
        Check.nothingThere("8: offences are forgotten", () -> scope.firstOffence());
        Scopes.feed(scope, 0);
        scope.arm();
        Check.due("8: the condition goes on", Scopes.feed(scope, 1), 1);
        Check.due("8: samples are still counted", scope.samples(), 4);
    }

    private static void disarming() {
        Triggerwright scope = new Triggerwright();
        scope.setLengths(0, 2);
        scope.setMask(0, 0, -5, 5);
        scope.arm();
        Scopes.feed(scope, 0, 9, 9, 9, 0, 1);
        Check.due("9: a record is being caught", scope.isCatching(), true);
        Check.due("9: it was armed", scope.disarm(), true);
        Check.due("9: isArmed", scope.isArmed(), false);
        Check.due("9: the one being caught is dropped", scope.isCatching(), false);
        Check.due("9: complete ones stay", scope.records(), 1);
        Check.due("9: failures stay", scope.failures(), 1);
        Check.due("9: it does not go on", Scopes.feed(scope, 1, 1, 0, 1, 1, 1), 0);
        Check.due("9: it was not armed", scope.disarm(), false);
        Check.due("9: its values stay", scope.value(0, 0, 0), 9);
    }

    private static void catching() {
        Triggerwright scope = new Triggerwright();
        scope.setLengths(0, 1);
        Scopes.feed(scope, 0, 1);
        Check.due("11: not when disarmed", scope.isCatching(), false);
        scope.arm();
        Scopes.feed(scope, 0);
        Check.due("11: not before the trigger", scope.isCatching(), false);
        Scopes.feed(scope, 1);
        Check.due("11: from the trigger sample", scope.isCatching(), true);
        Scopes.feed(scope, 1);
        Check.due("11: not when complete", scope.isCatching(), false);
        scope.disarm();
        scope.setLengths(0, 0);
        scope.arm();
        Scopes.feed(scope, 0, 1);
        Check.due("11: complete at once", scope.isCatching(), false);
        Check.due("11: complete at once", scope.records(), 1);
    }

    private static void eightRecords() {
        Triggerwright scope = new Triggerwright();
        scope.setLengths(0, 0);
        scope.arm();
        for (int k = 0; k < 7; k++) {
            Scopes.feed(scope, 0, 1 + k);
            Check.due("10: armed with " + (k + 1), scope.isArmed(), true);
        }
        Check.due("12: the eighth counts", Scopes.feed(scope, 0, 8), 1);
        Check.due("10: not armed with 8", scope.isArmed(), false);
        Check.due("16: 8 records", scope.records(), 8);
        Check.due("16: no ninth one", Scopes.feed(scope, 0, 1, 0, 1), 0);
        Check.due("16: 8 records", scope.records(), 8);
        for (int k = 0; k < 8; k++) {
            Check.due("19: record " + k, scope.value(k, 0, 0), k + 1);
        }
        Check.due("9: it was not armed", scope.disarm(), false);
        scope.setLengths(1, 1);
        Check.due("8: 8 are dropped", scope.arm(), 8);
        Check.due("8: armed again", scope.isArmed(), true);
        Check.due("8: and it catches", Scopes.feed(scope, 0, 1, 2), 1);
    }
}
