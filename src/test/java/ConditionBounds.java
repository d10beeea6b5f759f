/** The boundaries of promises 1 to 5: a new object and the conditions. */
final class ConditionBounds {
    private ConditionBounds() {
    }

    static void all() {
        newObject();
        setEdge();
        setWidth();
        setRunt();
        setSequence();
    }

    private static void newObject() {
        Check.sentence(1, "Creates a scope that is not armed.");
        Triggerwright scope = new Triggerwright();
        Check.due("isArmed", scope.isArmed(), false);
        Check.due("isCatching", scope.isCatching(), false);
        Check.due("samples", scope.samples(), 0);
        Check.due("fired", scope.fired(), 0);
        Check.due("records", scope.records(), 0);
        Check.due("failures", scope.failures(), 0);
        Check.due("disarm", scope.disarm(), false);
        Check.due("isArmed of the next object", armedFirst(), false);
    }

    /** What one object is set to must not show in the next one. */
    private static boolean armedFirst() {
        new Triggerwright().arm();
        return new Triggerwright().isArmed();
    }

    private static void setEdge() {
        String refusal = "Throws IllegalArgumentException if channel, level or hysteresis is out of range";
        new Parameter(2, "channel: 0 or 1", refusal, (scope, x) -> scope.setEdge(x, 0, 0, true)).range(0, 1);
        new Parameter(2, "level: -128 to 127", refusal, (scope, x) -> scope.setEdge(0, x, 0, true)).range(-128, 127);
        new Parameter(2, "hysteresis: 0 to 100", refusal, (scope, x) -> scope.setEdge(1, 0, x, false)).range(0, 100);
        Check.sentence(2, "rising: whether it is a rising edge");
        Triggerwright scope = new Triggerwright();
        scope.setEdge(0, 0, 0, true);
        Check.due("rising", Scopes.firings(scope, 0, 1, 0, -1), 1);
        scope.setEdge(0, 0, 0, false);
        Check.due("falling", Scopes.firings(scope, 0, 1, 0, -1), 1);
        Check.due("falling only", Scopes.firings(scope, 0, 1), 0);
        Check.sentence(2, "Sets an edge condition.");
        for (int channel : new int[] {0, 1}) {
            scope.setEdge(channel, -128, 0, true);
            Check.due("on channel 0, set for " + channel, Scopes.firings(scope, -128, -127, -127), 1 - channel);
            scope.setEdge(channel, 127, 0, false);
            Check.due("on channel 1, set for " + channel, Scopes.firingsSecond(scope, 127, 126, 126), channel);
        }
    }

    private static void setWidth() {
        String refusal = "Throws IllegalArgumentException if channel, level, least or most is out of range";
        new Parameter(3, "channel: 0 or 1", refusal, (scope, x) -> scope.setWidth(x, 0, 1, 1, true)).range(0, 1);
        new Parameter(3, "level: -128 to 127", refusal, (scope, x) -> scope.setWidth(1, x, 1, 1, true)).range(-128, 127);
        new Parameter(3, "least: the least number of samples, 1 to 100", refusal,
            (scope, x) -> scope.setWidth(0, 0, x, 100, false)).range(1, 100);
        String most = "most: the greatest number of samples, least to 100";
        new Parameter(3, most, refusal, (scope, x) -> scope.setWidth(0, 0, 1, x, true)).range(1, 100);
        new Parameter(3, most, refusal, (scope, x) -> scope.setWidth(0, 0, 50, x, true)).range(50, 100);
        new Parameter(3, most, refusal, (scope, x) -> scope.setWidth(0, 0, 100, x, true)).range(100, 100);
        Check.sentence(3, "high: whether it is for high pulses");
        Triggerwright scope = new Triggerwright();
        scope.setWidth(0, 0, 2, 2, true);
        Check.due("high", Scopes.firings(scope, 0, 0, 1, 1, 0), 1);
        scope.setWidth(0, 0, 2, 2, false);
        Check.due("low", Scopes.firings(scope, 1, 1, 0, 0, 1), 1);
        Check.due("low only", Scopes.firings(scope, 1, 0, 1, 1, 0), 0);
        Check.sentence(3, "Sets a width condition.");
        for (int channel : new int[] {0, 1}) {
            scope.setWidth(channel, 126, 1, 1, true);
            Check.due("on channel 0, set for " + channel, Scopes.firings(scope, 126, 127, 126, 126), 1 - channel);
            scope.setWidth(channel, -128, 1, 1, false);
            Check.due("on channel 1, set for " + channel, Scopes.firingsSecond(scope, -127, -128, -127, -127), channel);
        }
    }

    private static void setRunt() {
        String refusal = "Throws IllegalArgumentException if channel, low or high is out of range";
        new Parameter(4, "channel: 0 or 1", refusal, (scope, x) -> scope.setRunt(x, 0, 1)).range(0, 1);
        new Parameter(4, "low: the low level, -128 to 127", refusal,
            (scope, x) -> scope.setRunt(0, x, 127)).range(-128, 127);
        String high = "high: the high level, low to 127";
        new Parameter(4, high, refusal, (scope, x) -> scope.setRunt(0, -128, x)).range(-128, 127);
        new Parameter(4, high, refusal, (scope, x) -> scope.setRunt(1, 5, x)).range(5, 127);
        new Parameter(4, high, refusal, (scope, x) -> scope.setRunt(1, 127, x)).range(127, 127);
        Check.sentence(4, "Sets a runt condition.");
        Triggerwright scope = new Triggerwright();
        for (int channel : new int[] {0, 1}) {
            scope.setRunt(channel, -128, 127);
            Check.due("on channel 0, set for " + channel, Scopes.firings(scope, -128, 127, -128, -128), 1 - channel);
            scope.setRunt(channel, -128, -127);
            Check.due("on channel 1, set for " + channel, Scopes.firingsSecond(scope, -128, -127, -128, -128), channel);
        }
    }

    private static void setSequence() {
        String refusal = "Throws IllegalArgumentException if first, second or span is out of range";
        new Parameter(5, "first: the level of channel 0, -128 to 127", refusal,
            (scope, x) -> scope.setSequence(x, 0, 0)).range(-128, 127);
        new Parameter(5, "second: the level of channel 1, -128 to 127", refusal,
            (scope, x) -> scope.setSequence(0, x, 0)).range(-128, 127);
        new Parameter(5, "span: 0 to 100", refusal, (scope, x) -> scope.setSequence(0, 0, x)).range(0, 100);
        Check.sentence(5, "Sets a sequence condition.");
        Triggerwright scope = new Triggerwright();
        scope.setSequence(-128, 126, 1);
        Check.due("channel 0, then channel 1", Scopes.firingsPairs(scope, -128, 126, -127, 126, -127, 127), 1);
        Check.due("channel 1, then channel 0", Scopes.firingsPairs(scope, -128, 126, -128, 127, -127, 127), 0);
    }
}
