/** Promises 2 to 5, the conditions, with 15, fired. */
public final class ConditionTest {
    private static final int MIN = Integer.MIN_VALUE;
    private static final int MAX = Integer.MAX_VALUE;

    public static void main(String[] args) {
        firstCondition();
        risingEdge();
        fallingEdge();
        edgeRefuses();
        highPulses();
        lowPulses();
        widthBounds();
        widthRefuses();
        runts();
        runtRefuses();
        sequences();
        sequenceRemembers();
        sequenceRefuses();
        settingBeginsAnew();
        refusedChangesNothing();
        firedCounts();
        Check.finish("ConditionTest");
    }

    private static void firstCondition() {
        Check.due("1: not ready at first", Scopes.firings(new Triggerwright(), 1, 2, 1), 0);
        Check.due("1: rising at 0 on channel 0", Scopes.firings(new Triggerwright(), 0, 1), 1);
        Check.due("1: hysteresis 0", Scopes.firings(new Triggerwright(), 0, 1, 0, 1), 2);
        Check.due("1: level 0 isn't above 0", Scopes.firings(new Triggerwright(), -1, 0), 0);
        Check.due("1: channel 1 doesn't count", Scopes.firingsSecond(new Triggerwright(), -1, 1, -1, 1), 0);
    }

    private static void risingEdge() {
        Triggerwright scope = new Triggerwright();
        scope.setEdge(0, 10, 5, true);
        Check.due("2: 6 does not make ready", Scopes.firings(scope, 6, 11), 0);
        Check.due("2: 5 makes ready", Scopes.firings(scope, 5, 10, 11), 1);
        Check.due("2: fires once", Scopes.firings(scope, 12, 13), 0);
        Check.due("2: ready stays over samples between", Scopes.firings(scope, 5, 7, 9, 10, 11), 1);
        Check.due("2: not ready any more after it fired", Scopes.firings(scope, 9, 11), 0);
        scope.setEdge(1, 10, 5, true);
        Check.due("2: channel 0 isn't looked at", Scopes.firings(scope, 0, 20), 0);
        Check.due("2: channel 1 is", Scopes.firingsSecond(scope, 5, 11), 1);
        scope.setEdge(0, -128, 100, true);
        Check.due("2: ready is out of reach", Scopes.firings(scope, -128, 127), 0);
        scope.setEdge(0, 127, 0, true);
        Check.due("2: nothing is greater than 127", Scopes.firings(scope, 127, 127, -128, 127), 0);
        scope.setEdge(0, -128, 0, true);
        Check.due("2: level -128", Scopes.firings(scope, -128, -127), 1);
    }

    private static void fallingEdge() {
        Triggerwright scope = new Triggerwright();
        scope.setEdge(0, 10, 5, false);
        Check.due("2: 14 does not make ready", Scopes.firings(scope, 14, 9), 0);
        Check.due("2: 15 makes ready", Scopes.firings(scope, 15, 10, 9), 1);
        Check.due("2: falls once", Scopes.firings(scope, 8, 7), 0);
        Check.due("2: not ready any more after it fell", Scopes.firings(scope, 11, 9), 0);
        scope.setEdge(1, 10, 0, false);
        Check.due("2: falling on channel 1", Scopes.firingsSecond(scope, 10, 9), 1);
        scope.setEdge(0, 127, 0, false);
        Check.due("2: falling from 127", Scopes.firings(scope, 127, 126), 1);
        scope.setEdge(0, 28, 100, false);
        Check.due("2: falling with hysteresis 100", Scopes.firings(scope, 127, 27, 128 - 1, 27), 0);
        scope.setEdge(0, 27, 100, false);
        Check.due("2: ready at 127", Scopes.firings(scope, 127, 26), 1);
    }

    private static void edgeRefuses() {
        Triggerwright scope = new Triggerwright();
        for (int bad : new int[] {-1, 2, MIN, MAX}) {
            Check.illegal("2: setEdge channel " + bad, () -> scope.setEdge(bad, 0, 0, true));
        }
        for (int bad : new int[] {-129, 128, MIN, MAX}) {
            Check.illegal("2: setEdge level " + bad, () -> scope.setEdge(0, bad, 0, true));
        }
        for (int bad : new int[] {-1, 101, MIN, MAX}) {
            Check.illegal("2: setEdge hysteresis " + bad, () -> scope.setEdge(0, 0, bad, false));
        }
        scope.setEdge(0, -128, 0, true);
        scope.setEdge(1, 127, 100, false);
    }

    private static void highPulses() {
        Triggerwright scope = new Triggerwright();
        scope.setWidth(0, 0, 2, 3, true);
        Check.due("3: a pulse that wasn't seen", Scopes.firings(scope, 1, 1, 0), 0);
        Check.due("3: 1 sample is too short", Scopes.firings(scope, 1, 0), 0);
        Check.due("3: 2 samples", Scopes.firings(scope, 1, 1, 0), 1);
        Check.due("3: 3 samples", Scopes.firings(scope, 5, 127, 1, -9), 1);
        Check.due("3: 4 samples are too long", Scopes.firings(scope, 1, 1, 1, 1, 0), 0);
        Check.due("3: it fires behind the pulse", Scopes.firings(scope, 1, 1), 0);
        Check.due("3: at the first sample behind", Scopes.firings(scope, 0), 1);
        Check.due("3: not at the second", Scopes.firings(scope, 0, 0), 0);
        scope.setWidth(1, 10, 1, 1, true);
        Check.due("3: channel 0 isn't looked at", Scopes.firings(scope, 11, 0), 0);
        Check.due("3: 10 isn't greater than 10", Scopes.firingsSecond(scope, 10, 10), 0);
        Check.due("3: channel 1 is", Scopes.firingsSecond(scope, 11, 10), 1);
    }

    private static void lowPulses() {
        Triggerwright scope = new Triggerwright();
        scope.setWidth(0, 0, 2, 3, false);
        Check.due("3: a low pulse that wasn't seen", Scopes.firings(scope, 0, 0, 1), 0);
        Check.due("3: 1 low sample", Scopes.firings(scope, 0, 1), 0);
        Check.due("3: 2 low samples, not greater than the level", Scopes.firings(scope, 0, -1, 1), 1);
        Check.due("3: 3 low samples", Scopes.firings(scope, 0, 0, 0, 1), 1);
        Check.due("3: 4 low samples", Scopes.firings(scope, 0, 0, 0, 0, 1), 0);
    }

    private static void widthBounds() {
        Triggerwright scope = new Triggerwright();
        scope.setWidth(0, 0, 100, 100, true);
        Scopes.feed(scope, 0);
        scope.push(1, 0, 50);
        scope.push(1, 0, 49);
        Check.due("3: 99 samples of 100", Scopes.firings(scope, 0), 0);
        scope.push(1, 0, 50);
        scope.push(1, 0, 50);
        Check.due("3: 100 samples", Scopes.firings(scope, 0), 1);
        scope.push(1, 0, 50);
        scope.push(1, 0, 50);
        Check.due("3: 101 samples", Scopes.firings(scope, 1, 0), 0);
        scope.setWidth(0, 127, 1, 100, true);
        Check.due("3: no pulse above 127", Scopes.firings(scope, 127, 127, 0, 127), 0);
    }

    private static void widthRefuses() {
        Triggerwright scope = new Triggerwright();
        for (int bad : new int[] {-1, 2, MIN, MAX}) {
            Check.illegal("3: setWidth channel " + bad, () -> scope.setWidth(bad, 0, 1, 1, true));
        }
        for (int bad : new int[] {-129, 128, MIN, MAX}) {
            Check.illegal("3: setWidth level " + bad, () -> scope.setWidth(0, bad, 1, 1, true));
        }
        for (int bad : new int[] {0, 101, -1, MIN, MAX}) {
            Check.illegal("3: setWidth least " + bad, () -> scope.setWidth(0, 0, bad, 100, true));
        }
        for (int bad : new int[] {49, 101, 0, MIN, MAX}) {
            Check.illegal("3: setWidth most " + bad, () -> scope.setWidth(0, 0, 50, bad, true));
        }
        scope.setWidth(0, -128, 1, 1, true);
        scope.setWidth(1, 127, 100, 100, false);
    }

    private static void runts() {
        Triggerwright scope = new Triggerwright();
        scope.setRunt(0, 10, 50);
        Check.due("4: an excursion that wasn't seen", Scopes.firings(scope, 20, 10), 0);
        Check.due("4: a runt", Scopes.firings(scope, 11, 50, 10), 1);
        Check.due("4: 51 is no runt", Scopes.firings(scope, 11, 51, 11, 10), 0);
        Check.due("4: the next one is a runt again", Scopes.firings(scope, 11, 10), 1);
        Check.due("4: no excursion", Scopes.firings(scope, 10, 10, 0), 0);
        Check.due("4: it fires behind the runt", Scopes.firings(scope, 30), 0);
        Check.due("4: at the first sample behind", Scopes.firings(scope, 10), 1);
        Check.due("4: not at the second", Scopes.firings(scope, 10), 0);
        scope.setRunt(1, 10, 50);
        Check.due("4: channel 0 isn't looked at", Scopes.firings(scope, 11, 0), 0);
        Check.due("4: channel 1 is", Scopes.firingsSecond(scope, 11, 0), 1);
        scope.setRunt(0, 10, 10);
        Check.due("4: low equal to high", Scopes.firings(scope, 0, 11, 0), 0);
        scope.setRunt(0, 10, 50);
        Check.due("4: an excursion that wasn't seen, too high", Scopes.firings(scope, 60, 20, 10, 20, 10), 1);
    }

    private static void runtRefuses() {
        Triggerwright scope = new Triggerwright();
        for (int bad : new int[] {-1, 2, MIN, MAX}) {
            Check.illegal("4: setRunt channel " + bad, () -> scope.setRunt(bad, 0, 1));
        }
        for (int bad : new int[] {-129, 128, MIN, MAX}) {
            Check.illegal("4: setRunt low " + bad, () -> scope.setRunt(0, bad, 127));
        }
        for (int bad : new int[] {4, 128, -128, MIN, MAX}) {
            Check.illegal("4: setRunt high " + bad, () -> scope.setRunt(0, 5, bad));
        }
        scope.setRunt(0, -128, 127);
        scope.setRunt(1, 127, 127);
        scope.setRunt(1, -128, -128);
    }

    private static void sequences() {
        Triggerwright scope = new Triggerwright();
        scope.setSequence(0, 10, 2);
        Check.due("5: both rise at one sample", Scopes.firingsPairs(scope, 0, 10, 1, 11), 1);
        Check.due("5: the span is kept", Scopes.firingsPairs(scope, 0, 0, 1, 0, 1, 0, 1, 11), 1);
        Check.due("5: 1 more than the span", Scopes.firingsPairs(scope, 0, 0, 1, 0, 1, 0, 1, 0, 1, 11), 0);
        Check.due("5: channel 1 first", Scopes.firingsPairs(scope, 0, 0, 0, 11, 1, 11), 0);
        scope.setSequence(0, 10, 100);
        Check.due("5: no sample was looked at before", Scopes.firingsPairs(scope, 1, 0, 1, 11), 0);
        scope.setSequence(0, 10, 100);
        Check.due("5: nor for channel 1", Scopes.firingsPairs(scope, 0, 11, 1, 11, 1, 12), 0);
        scope.setSequence(0, 10, 0);
        Check.due("5: span 0, one later", Scopes.firingsPairs(scope, 0, 0, 1, 0, 1, 11), 0);
        Check.due("5: span 0, at once", Scopes.firingsPairs(scope, 0, 0, 1, 11), 1);
        Check.due("5: it must rise above the level", Scopes.firingsPairs(scope, -5, 0, 0, 11), 0);
        Check.due("5: so must channel 1", Scopes.firingsPairs(scope, 0, 0, 1, 10), 0);
        scope.setSequence(0, 10, 100);
        Scopes.feedPairs(scope, 0, 0);
        scope.push(1, 0, 50);
        scope.push(1, 0, 50);
        Check.due("5: span 100", Scopes.firingsPairs(scope, 1, 11), 1);
        Scopes.feedPairs(scope, 0, 0);
        scope.push(1, 0, 50);
        scope.push(1, 0, 50);
        Check.due("5: 101 later", Scopes.firingsPairs(scope, 1, 0, 1, 11), 0);
    }

    private static void sequenceRemembers() {
        Triggerwright scope = new Triggerwright();
        scope.setSequence(0, 0, 2);
        Check.due("5: the later rise is remembered",
            Scopes.firingsPairs(scope, 0, 0, 1, 0, 0, 0, 1, 0, 1, 0, 1, 1), 1);
        Check.due("5: nothing is remembered any more", Scopes.firingsPairs(scope, 1, 0, 1, 1), 0);
        Check.due("5: channel 1 out of the span", Scopes.firingsPairs(scope, 0, 0, 1, 0, 1, 0, 1, 0, 1, 1), 0);
        Check.due("5: a fresh rise counts again", Scopes.firingsPairs(scope, 0, 0, 1, 1), 1);
        scope.setSequence(0, 0, 100);
        Check.due("5: a rise fires once",
            Scopes.firingsPairs(scope, 0, 0, 1, 0, 1, 1, 1, 0, 1, 1, 1, 0, 1, 1), 1);
        scope.setSequence(-128, -128, 0);
        Check.due("5: levels -128", Scopes.firingsPairs(scope, -128, -128, -127, -127), 1);
    }

    private static void sequenceRefuses() {
        Triggerwright scope = new Triggerwright();
        for (int bad : new int[] {-129, 128, MIN, MAX}) {
            Check.illegal("5: setSequence first " + bad, () -> scope.setSequence(bad, 0, 0));
            Check.illegal("5: setSequence second " + bad, () -> scope.setSequence(0, bad, 0));
        }
        for (int bad : new int[] {-1, 101, MIN, MAX}) {
            Check.illegal("5: setSequence span " + bad, () -> scope.setSequence(0, 0, bad));
        }
        scope.setSequence(-128, 127, 0);
        scope.setSequence(127, -128, 100);
    }

    private static void settingBeginsAnew() {
        Triggerwright scope = new Triggerwright();
        scope.setEdge(0, 0, 0, true);
        Scopes.feed(scope, 0);
        scope.setEdge(0, 0, 0, true);
        Check.due("2: the same edge begins anew", Scopes.firings(scope, 1), 0);
        scope.setWidth(0, 0, 1, 9, true);
        Scopes.feed(scope, 0, 1);
        scope.setWidth(0, 0, 1, 9, true);
        Check.due("3: the same width begins anew", Scopes.firings(scope, 1, 0), 0);
        scope.setRunt(0, 0, 9);
        Scopes.feed(scope, 0, 1);
        scope.setRunt(0, 0, 9);
        Check.due("4: the same runt begins anew", Scopes.firings(scope, 1, 0), 0);
        scope.setSequence(0, 0, 9);
        Scopes.feedPairs(scope, 0, 0, 1, 0);
        scope.setSequence(0, 0, 9);
        Check.due("5: the same sequence begins anew", Scopes.firingsPairs(scope, 1, 0, 1, 1), 0);
    }

    private static void refusedChangesNothing() {
        Triggerwright scope = new Triggerwright();
        scope.setEdge(0, 5, 1, true);
        Scopes.feed(scope, 0);
        Check.illegal("2: refused", () -> scope.setEdge(0, 0, 101, true));
        Check.illegal("3: refused", () -> scope.setWidth(0, 0, 9, 8, true));
        Check.illegal("4: refused", () -> scope.setRunt(0, 9, 8));
        Check.illegal("5: refused", () -> scope.setSequence(0, 0, -1));
        Check.due("2: a refused setting leaves the condition ready", Scopes.firings(scope, 6), 1);
    }

    private static void firedCounts() {
        Triggerwright scope = new Triggerwright();
        Check.due("15: fired at first", scope.fired(), 0);
        Scopes.feed(scope, 0, 1);
        Check.due("15: fired when not armed", scope.fired(), 1);
        scope.arm();
        Check.due("15: arming keeps it", scope.fired(), 1);
        Scopes.feed(scope, 0, 1, 0, 1, 0, 1);
        Check.due("15: fired while a record is being caught", scope.fired(), 4);
        scope.setEdge(1, 0, 0, true);
        Check.due("15: setting a condition keeps it", scope.fired(), 4);
        Scopes.feedSecond(scope, 0, 1);
        Check.due("15: several conditions", scope.fired(), 5);
        scope.disarm();
        Check.due("15: disarming keeps it", scope.fired(), 5);
    }
}
