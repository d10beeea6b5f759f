/** The boundaries of promises 24 to 27: the mask. */
final class MaskBounds {
    private static final String OUT = "Throws IllegalArgumentException if one of the parameters is out of range";

    private MaskBounds() {
    }

    static void all() {
        setMask();
        setMaskPositions();
        setMaskAgain();
        clearMask();
        failures();
        firstOffence();
        lowestOffence();
        noOffence();
    }

    private static void setMask() {
        String from = "from: the first position, 0 to 48";
        new Parameter(24, from, OUT, (scope, x) -> scope.setMask(x, 48, 100, 100)).range(0, 48);
        String to = "to: the last position, from to 48";
        new Parameter(24, to, OUT, (scope, x) -> scope.setMask(0, x, 100, 100)).range(0, 48);
        new Parameter(24, to, OUT, (scope, x) -> scope.setMask(1, x, 100, 100)).range(1, 48);
        new Parameter(24, to, OUT, (scope, x) -> scope.setMask(48, x, 100, 100)).range(48, 48);
        new Parameter(24, "low: the least value, -128 to 127", OUT,
            (scope, x) -> scope.setMask(0, 48, x, 127)).range(-128, 127);
        String high = "high: the greatest value, low to 127";
        new Parameter(24, high, OUT, (scope, x) -> scope.setMask(0, 48, -128, x)).range(-128, 127);
        new Parameter(24, high, OUT, (scope, x) -> scope.setMask(0, 48, 50, x)).range(50, 127);
        new Parameter(24, high, OUT, (scope, x) -> scope.setMask(0, 48, 127, x)).range(127, 127);
    }

    /** Whether a value of 9 at a position offends limits of 0 to 5 at some positions. */
    private static void offendsAt(int from, int to, int position, boolean due) {
        Triggerwright scope = RecordTerms.armed(0, 32);
        scope.setEdge(1, 0, 0, true);
        scope.setMask(from, to, 0, 5);
        scope.push(0, 0, 1);
        for (int k = 0; k <= 32; k++) {
            scope.push(k == position ? 9 : 1, 1, 1);
        }
        Check.due("records", scope.records(), 1);
        Check.due("position " + position + " for " + from + " to " + to, scope.failures(), due ? 1 : 0);
    }

    private static void setMaskPositions() {
        Check.sentence(24, "Sets the least and the greatest value for some positions.");
        offendsAt(10, 20, 9, false);
        offendsAt(10, 20, 10, true);
        offendsAt(10, 20, 20, true);
        offendsAt(10, 20, 21, false);
        offendsAt(0, 0, 0, true);
        offendsAt(0, 0, 1, false);
        offendsAt(32, 32, 32, true);
        offendsAt(32, 32, 31, false);
        offendsAt(32, 48, 32, true);
        offendsAt(33, 48, 32, false);
        offendsAt(0, 48, 0, true);
        offendsAt(0, 48, 32, true);
    }

    private static void setMaskAgain() {
        Check.sentence(24, "Sets the least and the greatest value for some positions.");
        Triggerwright scope = RecordTerms.armed(0, 2);
        scope.setMask(0, 2, 5, 5);
        scope.setMask(1, 1, 7, 7);
        Scopes.feed(scope, 0, 5, 7, 5);
        Check.due("the later limits at their positions, the earlier ones beside them", scope.failures(), 0);
        Scopes.feed(scope, 0, 5, 5, 5);
        Check.due("the earlier limits where there are later ones", scope.firstOffence(), 101);
        scope.setMask(0, 48, -128, 127);
        Scopes.feed(scope, 0, 127, -128, 127);
        Check.due("limits that every value keeps", scope.failures(), 1);
    }

    private static void clearMask() {
        Check.sentence(25, "Removes all values from the mask.");
        Triggerwright scope = RecordTerms.armed(16, 32);
        Check.taken("when there are none", () -> scope.clearMask());
        scope.setMask(0, 48, 100, 100);
        scope.clearMask();
        Scopes.pushMany(scope, -128, 16);
        Scopes.pushMany(scope, 127, 33);
        Check.due("a record", scope.records(), 1);
        Check.due("no limits from 0 to 48", scope.failures(), 0);
        scope.setMask(48, 48, 0, 0);
        scope.setMask(0, 0, 0, 0);
        Scopes.pushMany(scope, -128, 16);
        Scopes.pushMany(scope, 127, 33);
        Check.due("limits again", scope.failures(), 1);
        scope.clearMask();
        scope.clearMask();
        Check.due("failures stay", scope.failures(), 1);
        Check.due("the first offence stays", scope.firstOffence(), 100);
        Scopes.pushMany(scope, -128, 16);
        Scopes.pushMany(scope, 127, 33);
        Check.due("no limits again", scope.failures(), 1);
    }

    private static void failures() {
        Check.sentence(26, "Returns how many failures there were since the scope was armed.");
        Triggerwright scope = RecordTerms.armed(0, 0);
        scope.setMask(0, 0, 0, 0);
        Check.due("none yet", scope.failures(), 0);
        for (int k = 1; k <= 8; k++) {
            Scopes.feed(scope, 0, 1);
            Check.due("all of " + k, scope.failures(), k);
        }
        Scopes.feed(scope, 0, 1);
        Check.due("no more than 8", scope.failures(), 8);
        scope.disarm();
        Check.due("disarmed", scope.failures(), 8);
        scope.arm();
        Check.due("armed", scope.failures(), 0);
        Scopes.feed(scope, 0, 1);
        Check.due("since it was armed", scope.failures(), 1);
        Check.due("none at first", new Triggerwright().failures(), 0);
    }

    private static void firstOffence() {
        Check.sentence(27, "Returns where the first offence was since the scope was armed.");
        Triggerwright scope = RecordTerms.armed(0, 1);
        scope.setMask(1, 1, 0, 5);
        Scopes.feed(scope, 0, 1, 5);
        Scopes.feed(scope, 0, 1, 6);
        Check.due("record 1", scope.firstOffence(), 101);
        scope.setMask(0, 0, 100, 100);
        Scopes.feed(scope, 0, 1, 1);
        Check.due("the first one stays", scope.firstOffence(), 101);
        scope.disarm();
        Check.due("disarmed", scope.firstOffence(), 101);
        scope.arm();
        Scopes.feed(scope, 0, 1, 6);
        Check.due("since it was armed", scope.firstOffence(), 0);
    }

    private static void lowestOffence() {
        Check.sentence(27, "Returns 100 times the number of the record plus the position, the lowest one in this record.");
        Triggerwright scope = RecordTerms.armed(16, 32);
        scope.setEdge(1, 0, 0, true);
        scope.setMask(0, 48, 0, 5);
        for (int record = 0; record < 8; record++) {
            boolean last = record == 7;
            Check.nothingThere("none before record " + record, () -> scope.firstOffence());
            scope.push(0, 0, 16);
            scope.push(0, 1, 32);
            scope.push(last ? 9 : 5, 1, 1);
        }
        Check.due("the last position of the last record", scope.firstOffence(), 748);
        scope.arm();
        scope.push(9, 0, 16);
        scope.push(9, 1, 33);
        Check.due("the first position of the first record", scope.firstOffence(), 0);
        scope.arm();
        scope.push(0, 0, 16);
        scope.push(0, 1, 31);
        scope.push(-1, 1, 2);
        Check.due("the lower one of two", scope.firstOffence(), 47);
    }

    private static void noOffence() {
        Check.sentence(27, "Throws NoSuchElementException if there was none");
        for (Situation at : Situation.values()) {
            if (at.make().failures() == 0) {
                Refusals.nothingThere("firstOffence", at, scope -> scope.firstOffence());
            } else {
                Check.taken("firstOffence at " + at, () -> at.make().firstOffence());
            }
        }
        Triggerwright scope = RecordTerms.armed(0, 0);
        scope.setMask(0, 0, 0, 0);
        Check.nothingThere("no record", () -> scope.firstOffence());
        Scopes.feed(scope, 0, 1);
        Check.due("one", scope.firstOffence(), 0);
        scope.arm();
        Check.nothingThere("none since it was armed", () -> scope.firstOffence());
    }
}
