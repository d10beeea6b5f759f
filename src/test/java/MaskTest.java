/** Promises 24 to 27: the mask. */
public final class MaskTest {
    private static final int MIN = Integer.MIN_VALUE;
    private static final int MAX = Integer.MAX_VALUE;

    public static void main(String[] args) {
        limits();
        noMask();
        maskRefuses();
        clearing();
        countsOnce();
        asItIsThen();
        offences();
        lastPosition();
        Check.finish("MaskTest");
    }

    /** A scope that is armed and whose records have these lengths. */
    private static Triggerwright armed(int pre, int post) {
        Triggerwright scope = new Triggerwright();
        scope.setLengths(pre, post);
        scope.arm();
        return scope;
    }

    private static void limits() {
        Triggerwright scope = armed(0, 1);
        scope.setMask(1, 1, -10, 20);
        Scopes.feed(scope, 0, 1, 20);
        Scopes.feed(scope, 0, 1, -10);
        Check.due("24: the limits themselves are no offence", scope.failures(), 0);
        Scopes.feed(scope, 0, 1, 21);
        Check.due("24: greater than the greatest", scope.failures(), 1);
        Scopes.feed(scope, 0, 1, -11);
        Check.due("24: less than the least", scope.failures(), 2);
        Scopes.feed(scope, 0, 99, 0);
        Check.due("24: position 0 has no limits", scope.failures(), 2);
        scope.setMask(1, 1, 30, 30);
        Scopes.feed(scope, 0, 1, 30);
        Check.due("24: low equal to high, and set again", scope.failures(), 2);
        scope.push(0, 99, 1);
        scope.push(1, 99, 1);
        scope.push(30, 99, 1);
        Check.due("24: channel 1 isn't compared", scope.failures(), 2);
        Check.due("16: 7 records", scope.records(), 7);
    }

    private static void noMask() {
        Triggerwright scope = armed(0, 1);
        Scopes.feed(scope, 0, 127, -128);
        Check.due("24: no mask at first", scope.failures(), 0);
        Check.nothingThere("27: no offence", () -> scope.firstOffence());
    }

    private static void maskRefuses() {
        Triggerwright scope = armed(0, 0);
        for (int bad : new int[] {-1, 49, MIN, MAX}) {
            Check.illegal("24: setMask from " + bad, () -> scope.setMask(bad, 48, 5, 5));
        }
        for (int bad : new int[] {9, 49, -1, MIN, MAX}) {
            Check.illegal("24: setMask to " + bad, () -> scope.setMask(10, bad, 5, 5));
        }
        for (int bad : new int[] {-129, 128, MIN, MAX}) {
            Check.illegal("24: setMask low " + bad, () -> scope.setMask(0, 48, bad, 127));
        }
        for (int bad : new int[] {4, 128, -128, MIN, MAX}) {
            Check.illegal("24: setMask high " + bad, () -> scope.setMask(0, 48, 5, bad));
        }
        Scopes.feed(scope, 0, 1);
        Check.due("24: a refused call sets nothing", scope.failures(), 0);
        scope.setMask(0, 48, -128, 127);
        scope.setMask(48, 48, 127, 127);
        scope.setMask(0, 0, -128, -128);
        Scopes.feed(scope, 0, 1);
        Check.due("24: the bounds are allowed", scope.failures(), 1);
    }

    private static void clearing() {
        Triggerwright scope = armed(0, 1);
        scope.setMask(0, 48, 100, 100);
        Scopes.feed(scope, 0, 1, 1);
        Check.due("26: a failure", scope.failures(), 1);
        scope.clearMask();
        Check.due("25: failures stay", scope.failures(), 1);
        Check.due("25: the offence stays", scope.firstOffence(), 0);
        Scopes.feed(scope, 0, 127, -128);
        Check.due("25: no limits any more", scope.failures(), 1);
    }

    private static void countsOnce() {
        Triggerwright scope = armed(0, 3);
        scope.setMask(0, 3, 100, 100);
        Scopes.feed(scope, 0, 1, 1, 1, 1);
        Check.due("26: four offences, one failure", scope.failures(), 1);
        Scopes.feed(scope, 0, 1);
        Check.due("26: not before it is complete", scope.failures(), 1);
        scope.disarm();
        Check.due("26: a dropped record is none", scope.failures(), 1);
        scope.setMask(0, 48, -128, 127);
        Check.due("26: complete ones aren't compared again", scope.failures(), 1);
    }

    private static void asItIsThen() {
        Triggerwright scope = armed(0, 2);
        Scopes.feed(scope, 0, 1, 1);
        scope.setMask(0, 0, 50, 60);
        Scopes.feed(scope, 1);
        Check.due("24: the mask as it is when the record is complete", scope.failures(), 1);
        Scopes.feed(scope, 0, 1, 1);
        scope.clearMask();
        Scopes.feed(scope, 1);
        Check.due("25: cleared before it is complete", scope.failures(), 1);
    }

    private static void offences() {
        Triggerwright scope = armed(1, 2);
        scope.setMask(2, 3, -10, 10);
        Check.nothingThere("27: none at first", () -> scope.firstOffence());
        Scopes.feed(scope, 0, 1, 1, 1);
        Check.nothingThere("27: none yet", () -> scope.firstOffence());
        Scopes.feed(scope, 0, 1, 1, 50);
        Check.due("27: record 1, position 3", scope.firstOffence(), 103);
        Scopes.feed(scope, 0, 1, 50, 50);
        Check.due("27: the first one stays", scope.firstOffence(), 103);
        Check.due("26: two failures", scope.failures(), 2);
        scope.arm();
        Scopes.feed(scope, 0, 1, 50, 50);
        Check.due("27: the lowest position", scope.firstOffence(), 2);
        scope.disarm();
        Check.due("27: disarming keeps it", scope.firstOffence(), 2);
        scope.arm();
        Check.nothingThere("27: arming forgets it", () -> scope.firstOffence());
        Check.due("26: arming forgets failures", scope.failures(), 0);
    }

    private static void lastPosition() {
        Triggerwright scope = armed(16, 32);
        scope.setMask(48, 48, 0, 5);
        scope.push(0, 0, 16);
        scope.push(5, 0, 32);
        scope.push(6, 0, 1);
        Check.due("27: position 48", scope.firstOffence(), 48);
        scope.arm();
        scope.push(0, 0, 16);
        scope.push(5, 0, 32);
        scope.push(4, 0, 1);
        Check.due("26: none at position 48", scope.failures(), 0);
        scope.setMask(0, 48, 100, 100);
        scope.clearMask();
        scope.push(0, 0, 16);
        scope.push(5, 0, 33);
        Check.due("16: a second record", scope.records(), 2);
        Check.due("25: no limits from 0 to 48", scope.failures(), 0);
    }
}
