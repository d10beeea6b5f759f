/** Promises 12 to 14: push, ramp and samples. */
public final class SamplesTest {
    private static final int MIN = Integer.MIN_VALUE;
    private static final int MAX = Integer.MAX_VALUE;

    public static void main(String[] args) {
        pushing();
        pushRefuses();
        ramping();
        rampKeepsBounds();
        rampRefuses();
        Check.finish("SamplesTest");
    }

    private static void pushing() {
        Triggerwright scope = new Triggerwright();
        Check.due("14: at first", scope.samples(), 0);
        scope.push(0, 0, 50);
        Check.due("14: 50 samples", scope.samples(), 50);
        scope.push(-128, 127, 1);
        Check.due("14: 51 samples", scope.samples(), 51);
        scope.setLengths(0, 2);
        scope.arm();
        Check.due("14: arming keeps them", scope.samples(), 51);
        Check.due("12: none complete", scope.push(10, 20, 2), 0);
        Check.due("12: one complete", scope.push(30, 40, 5), 1);
        Check.due("12: the count is taken in", scope.samples(), 58);
        Check.due("12: channel 0", scope.value(0, 0, 1), 10);
        Check.due("12: channel 1", scope.value(0, 1, 1), 20);
        Check.due("12: channel 0 of the next", scope.value(0, 0, 2), 30);
        Check.due("12: channel 1 of the next", scope.value(0, 1, 2), 40);
        scope.disarm();
        Check.due("14: disarming keeps them", scope.samples(), 58);
    }

    private static void pushRefuses() {
        Triggerwright scope = new Triggerwright();
        for (int bad : new int[] {-129, 128, MIN, MAX}) {
            Check.illegal("12: push first " + bad, () -> scope.push(bad, 0, 1));
            Check.illegal("12: push second " + bad, () -> scope.push(0, bad, 1));
        }
        for (int bad : new int[] {0, 51, -1, MIN, MAX}) {
            Check.illegal("12: push count " + bad, () -> scope.push(0, 0, bad));
        }
        Check.due("12: a refused call takes nothing in", scope.samples(), 0);
        Check.due("12: the bounds are allowed", scope.push(-128, 127, 50) + scope.push(127, -128, 1), 0);
        Check.due("12: 51 came in", scope.samples(), 51);
    }

    private static void ramping() {
        Triggerwright scope = new Triggerwright();
        scope.setLengths(1, 2);
        scope.arm();
        Check.due("13: a record", scope.ramp(-3, 9, 2, -4, 5), 1);
        Check.due("13: 5 samples", scope.samples(), 5);
        Check.due("13: trigger", scope.trigger(0), 2);
        int[] first = {-1, 1, 3, 5};
        int[] second = {5, 1, -3, -7};
        for (int k = 0; k < 4; k++) {
            Check.due("13: channel 0 at " + k, scope.value(0, 0, k), first[k]);
            Check.due("13: channel 1 at " + k, scope.value(0, 1, k), second[k]);
        }
        Check.due("13: no step", scope.ramp(0, 0, 0, 0, 50), 0);
        Check.due("13: 55 samples", scope.samples(), 55);
        scope.disarm();
        scope.setLengths(0, 1);
        scope.setSequence(0, 0, 100);
        scope.arm();
        scope.ramp(0, 0, 1, 0, 2);
        scope.push(1, 1, 1);
        Check.due("13: the samples come one after the other", scope.trigger(scope.push(1, 1, 1) - 1), 57);
    }

    private static void rampKeepsBounds() {
        Triggerwright scope = new Triggerwright();
        scope.setLengths(0, 32);
        scope.setEdge(0, 100, 0, true);
        scope.arm();
        scope.ramp(99, -99, 50, -50, 50);
        Check.due("13: kept to 127", scope.value(0, 0, 0), 127);
        Check.due("13: kept to -128", scope.value(0, 1, 0), -128);
        Check.due("13: kept to 127 to the end", scope.value(0, 0, 32), 127);
        Check.due("13: kept to -128 to the end", scope.value(0, 1, 32), -128);
        scope.setEdge(0, 100, 0, false);
        Scopes.feed(scope, 127);
        scope.ramp(99, -99, -50, 50, 50);
        Check.due("13: falling", scope.value(1, 0, 4), -101);
        Check.due("13: kept to -128", scope.value(1, 0, 5), -128);
        Check.due("13: rising", scope.value(1, 1, 4), 101);
        Check.due("13: kept to 127", scope.value(1, 1, 5), 127);
    }

    private static void rampRefuses() {
        Triggerwright scope = new Triggerwright();
        for (int bad : new int[] {-129, 128, MIN, MAX}) {
            Check.illegal("13: ramp first " + bad, () -> scope.ramp(bad, 0, 0, 0, 1));
            Check.illegal("13: ramp second " + bad, () -> scope.ramp(0, bad, 0, 0, 1));
        }
        for (int bad : new int[] {-51, 51, MIN, MAX}) {
            Check.illegal("13: ramp firstStep " + bad, () -> scope.ramp(0, 0, bad, 0, 1));
            Check.illegal("13: ramp secondStep " + bad, () -> scope.ramp(0, 0, 0, bad, 1));
        }
        for (int bad : new int[] {0, 51, -1, MIN, MAX}) {
            Check.illegal("13: ramp count " + bad, () -> scope.ramp(0, 0, 0, 0, bad));
        }
        Check.due("13: a refused call takes nothing in", scope.samples(), 0);
        scope.ramp(-128, 127, -50, 50, 50);
        scope.ramp(127, -128, 50, -50, 1);
        Check.due("13: the bounds are allowed", scope.samples(), 51);
    }
}
