/** The boundaries of samples and conditions, as 'Terms' tells them. */
final class ConditionTerms {
    private ConditionTerms() {
    }

    static void all() {
        valuesOfSamples();
        numbersOfSamples();
        beginsAnew();
        edgeAtFirst();
        risingGetsReady();
        risingFires();
        fallingGetsReady();
        fallingFires();
        pulses();
        pulseSeen();
        pulseFires();
        pulseBehind();
        excursions();
        excursionSeen();
        runtFires();
        channelsRise();
        riseRemembered();
        sequenceFires();
        nothingRemembered();
        conditionAtFirst();
    }

    private static void terms(String words) {
        Check.sentence(Sentences.TERMS, words);
    }

    private static void valuesOfSamples() {
        terms("Samples come in pairs, a value of channel 0 and a value of channel 1, each from -128 to 127.");
        Triggerwright scope = new Triggerwright();
        scope.setLengths(1, 0);
        scope.arm();
        Check.due("-128 and 127, then 127 and -128", Scopes.feedPairs(scope, -128, 127, 127, -128), 1);
        Check.due("the least of channel 0", scope.value(0, 0, 0), -128);
        Check.due("the greatest of channel 1", scope.value(0, 1, 0), 127);
        Check.due("the greatest of channel 0", scope.value(0, 0, 1), 127);
        Check.due("the least of channel 1", scope.value(0, 1, 1), -128);
    }

    private static void numbersOfSamples() {
        terms("They are numbered from 0.");
        Triggerwright scope = new Triggerwright();
        scope.setLengths(1, 0);
        scope.arm();
        Scopes.feed(scope, 0, 1);
        Check.due("the second sample", scope.trigger(0), 1);
        Scopes.feed(scope, 0, 1);
        Check.due("the fourth sample", scope.trigger(1), 3);
    }

    private static void beginsAnew() {
        terms("A condition looks at the samples from the moment at which it is set; whenever it is set, it begins anew,"
            + " also if it is the same.");
        Triggerwright scope = new Triggerwright();
        scope.setEdge(0, 0, 0, true);
        Scopes.feed(scope, 0);
        scope.setEdge(0, 0, 0, true);
        Check.due("an edge that was ready", Scopes.firings(scope, 1), 0);
        scope.setWidth(0, 0, 1, 9, true);
        Scopes.feed(scope, 0, 1);
        scope.setWidth(0, 0, 1, 9, true);
        Check.due("a pulse that was seen", Scopes.firings(scope, 1, 0), 0);
        Check.due("the next one", Scopes.firings(scope, 1, 0), 1);
        scope.setRunt(0, 0, 9);
        Scopes.feed(scope, 0, 1);
        scope.setRunt(0, 0, 9);
        Check.due("an excursion that was seen", Scopes.firings(scope, 1, 0), 0);
        scope.setRunt(0, 0, 9);
        Scopes.feed(scope, 0, 10);
        scope.setRunt(0, 0, 9);
        Check.due("what was too high before", Scopes.firings(scope, 0, 9, 0), 1);
        scope.setSequence(0, 0, 9);
        Scopes.feedPairs(scope, 0, 0, 1, 0);
        scope.setSequence(0, 0, 9);
        Check.due("a rise that was remembered", Scopes.firingsPairs(scope, 1, 0, 1, 1), 0);
        Scopes.feedPairs(scope, 0, 0);
        scope.setSequence(0, 0, 9);
        Check.due("a sample just before", Scopes.firingsPairs(scope, 1, 1), 0);
        Triggerwright caught = RecordTerms.armed(0, 2);
        Scopes.feed(caught, 0, 1, 1);
        caught.setRunt(1, 0, 0);
        Check.due("the record that is being caught goes on", Scopes.feed(caught, 1), 1);
        caught.setEdge(0, 0, 0, true);
        Check.due("complete records stay", caught.records(), 1);
        Check.due("what fired before stays counted", caught.fired(), 1);
    }

    private static void edgeAtFirst() {
        terms("Edge: it is not ready at first.");
        Triggerwright rising = new Triggerwright();
        rising.setEdge(0, -128, 0, true);
        Check.due("rising, at the first sample and the next", Scopes.firings(rising, 127, -127, 127), 0);
        Triggerwright falling = new Triggerwright();
        falling.setEdge(0, 127, 0, false);
        Check.due("falling, at the first sample and the next", Scopes.firings(falling, -128, 126, -128), 0);
    }

    /** Whether an edge condition fires at the second one of two values. */
    private static void edge(int level, int hysteresis, boolean rising, int first, int second, int due) {
        Triggerwright scope = new Triggerwright();
        scope.setEdge(0, level, hysteresis, rising);
        String name = (rising ? "rising at " : "falling at ") + level + " by " + hysteresis;
        Check.due(name + " from " + first + " to " + second, Scopes.firings(scope, first, second), due);
    }

    private static void risingGetsReady() {
        terms("A rising edge gets ready at a sample whose value is at most the level less the hysteresis;");
        edge(10, 5, true, 5, 11, 1);
        edge(10, 5, true, 6, 11, 0);
        edge(10, 0, true, 10, 11, 1);
        edge(10, 0, true, 11, 12, 0);
        edge(-28, 100, true, -128, -27, 1);
        edge(-28, 100, true, -127, -27, 0);
        edge(-29, 100, true, -128, 127, 0);
        edge(-128, 0, true, -128, -127, 1);
        edge(-128, 1, true, -128, 127, 0);
        edge(126, 100, true, 26, 127, 1);
        edge(126, 100, true, 27, 127, 0);
    }

    private static void risingFires() {
        terms("if it is ready and the value of a sample is greater than the level, it fires and is not ready any more.");
        edge(10, 5, true, 5, 10, 0);
        edge(10, 5, true, 5, 11, 1);
        edge(126, 0, true, -128, 126, 0);
        edge(126, 0, true, -128, 127, 1);
        edge(127, 0, true, -128, 127, 0);
        Triggerwright scope = new Triggerwright();
        scope.setEdge(0, 10, 5, true);
        Check.due("ready over the level itself", Scopes.firings(scope, 5, 6, 10, 10, 11), 1);
        Check.due("not ready any more", Scopes.firings(scope, 11, 127, 10, 11, 6, 11), 0);
        Check.due("ready again", Scopes.firings(scope, 5, 11), 1);
    }

    private static void fallingGetsReady() {
        terms("A falling edge gets ready at a sample whose value is at least the level plus the hysteresis;");
        edge(10, 5, false, 15, 9, 1);
        edge(10, 5, false, 14, 9, 0);
        edge(10, 0, false, 10, 9, 1);
        edge(10, 0, false, 9, 8, 0);
        edge(27, 100, false, 127, 26, 1);
        edge(27, 100, false, 126, 26, 0);
        edge(28, 100, false, 127, -128, 0);
        edge(127, 0, false, 127, 126, 1);
        edge(127, 1, false, 127, -128, 0);
        edge(-127, 100, false, -27, -128, 1);
        edge(-127, 100, false, -28, -128, 0);
    }

    private static void fallingFires() {
        terms("if it is ready and the value of a sample is less than the level, it fires and is not ready any more.");
        edge(10, 5, false, 15, 10, 0);
        edge(10, 5, false, 15, 9, 1);
        edge(-127, 0, false, 127, -127, 0);
        edge(-127, 0, false, 127, -128, 1);
        edge(-128, 0, false, 127, -128, 0);
        Triggerwright scope = new Triggerwright();
        scope.setEdge(0, 10, 5, false);
        Check.due("ready over the level itself", Scopes.firings(scope, 15, 14, 10, 10, 9), 1);
        Check.due("not ready any more", Scopes.firings(scope, 9, -128, 10, 9, 14, 9), 0);
        Check.due("ready again", Scopes.firings(scope, 15, 9), 1);
    }

    /** Whether a condition for pulses of one sample fires at the third one of three values. */
    private static void pulse(int level, boolean high, int before, int inside, int behind, int due) {
        Triggerwright scope = new Triggerwright();
        scope.setWidth(0, level, 1, 1, high);
        String name = (high ? "high at " : "low at ") + level;
        Check.due(name + ", " + before + " " + inside + " " + behind, Scopes.firings(scope, before, inside, behind), due);
    }

    private static void pulses() {
        terms("Width: a high pulse is a sequence of consecutive samples with values greater than the level,"
            + " a low pulse one with values that are not greater.");
        pulse(10, true, 10, 11, 10, 1);
        pulse(10, true, 10, 10, 10, 0);
        pulse(10, true, 10, 11, 11, 0);
        pulse(10, true, 11, 11, 10, 0);
        pulse(10, false, 11, 10, 11, 1);
        pulse(10, false, 11, 11, 11, 0);
        pulse(10, false, 11, 10, 10, 0);
        pulse(10, false, 10, 10, 11, 0);
        pulse(-128, true, -128, -127, -128, 1);
        pulse(-128, false, -127, -128, -127, 1);
        pulse(127, true, -128, 127, -128, 0);
        pulse(127, false, 127, -128, 127, 0);
        pulse(126, true, 126, 127, 126, 1);
        pulse(126, false, 127, 126, 127, 1);
    }

    private static void pulseSeen() {
        terms("A pulse is seen if the condition has looked at a sample just before it that does not belong to it.");
        for (boolean high : new boolean[] {true, false}) {
            int inside = high ? 1 : 0;
            int outside = 1 - inside;
            Triggerwright scope = new Triggerwright();
            scope.setWidth(0, 0, 1, 100, high);
            Check.due("it began with the first sample, " + high, Scopes.firings(scope, inside, outside), 0);
            Check.due("the next one, " + high, Scopes.firings(scope, inside, outside), 1);
            scope.setWidth(0, 0, 1, 100, high);
            Check.due("the sample before was not looked at, " + high, Scopes.firings(scope, inside, inside, outside), 0);
            scope.setWidth(0, 0, 1, 100, high);
            Check.due("it was looked at, " + high, Scopes.firings(scope, outside, inside, outside), 1);
        }
    }

    /** Whether a width condition fires behind a pulse of so many samples. */
    private static void width(int least, int most, int samples, int due) {
        for (boolean high : new boolean[] {true, false}) {
            Triggerwright scope = new Triggerwright();
            scope.setWidth(0, 0, least, most, high);
            Scopes.feed(scope, high ? 0 : 1);
            Scopes.pushMany(scope, high ? 1 : 0, samples);
            Check.due("not in the pulse itself", scope.fired(), 0);
            Scopes.feed(scope, high ? 0 : 1);
            Check.due(samples + " samples for " + least + " to " + most + ", " + high, scope.fired(), due);
        }
    }

    private static void pulseFires() {
        terms("if the pulse has at least the least and at most the greatest number of samples.");
        width(2, 3, 1, 0);
        width(2, 3, 2, 1);
        width(2, 3, 3, 1);
        width(2, 3, 4, 0);
        width(1, 1, 1, 1);
        width(1, 1, 2, 0);
        width(1, 100, 100, 1);
        width(1, 100, 101, 0);
        width(100, 100, 99, 0);
        width(100, 100, 100, 1);
        width(100, 100, 101, 0);
        width(2, 3, 256 + 2, 0);
        width(1, 100, 20000, 0);
    }

    private static void pulseBehind() {
        terms("The condition fires at the first sample behind a pulse that it has seen,");
        Triggerwright scope = new Triggerwright();
        scope.setWidth(0, 0, 1, 100, true);
        Check.due("nothing yet", Scopes.firings(scope, 0, 0), 0);
        Check.due("in the pulse", Scopes.firings(scope, 1, 1), 0);
        Check.due("at the first sample behind it", Scopes.firings(scope, 0), 1);
        Check.due("at the next ones", Scopes.firings(scope, 0, 0), 0);
    }

    private static void runt(int low, int high, int due, int... values) {
        Triggerwright scope = new Triggerwright();
        scope.setRunt(0, low, high);
        String name = "from " + low + " to " + high + ": " + java.util.Arrays.toString(values);
        Check.due(name, Scopes.firings(scope, values), due);
    }

    private static void excursions() {
        terms("Runt: an excursion is a sequence of consecutive samples with values greater than the low level,");
        runt(10, 50, 1, 10, 11, 10);
        runt(10, 50, 0, 10, 10, 10);
        runt(10, 50, 0, 10, 11, 11);
        runt(-128, 127, 1, -128, -127, -128);
        runt(-128, 127, 0, -128, -128, -128);
        runt(126, 127, 1, 126, 127, 126);
        runt(127, 127, 0, 127, 127, -128, 127, 127);
    }

    private static void excursionSeen() {
        terms("and it is seen if the condition has looked at a sample just before it that does not belong to it.");
        runt(10, 50, 0, 11, 10);
        runt(10, 50, 1, 11, 10, 11, 10);
        runt(10, 50, 1, 51, 10, 11, 10);
        Triggerwright scope = new Triggerwright();
        Scopes.feed(scope, -5);
        scope.setRunt(0, 10, 50);
        Check.due("the sample before was not looked at", Scopes.firings(scope, 11, 11, 10), 0);
        scope.setRunt(0, 10, 50);
        Check.due("it was looked at", Scopes.firings(scope, 10, 11, 10), 1);
    }

    private static void runtFires() {
        terms("The condition fires at the first sample behind an excursion that it has seen,"
            + " if none of its values is greater than the high level.");
        runt(10, 50, 1, 10, 50, 10);
        runt(10, 50, 0, 10, 51, 10);
        runt(10, 50, 0, 10, 51, 11, 11, 10);
        runt(10, 50, 0, 10, 11, 51, 11, 10);
        runt(10, 50, 0, 10, 11, 11, 51, 10);
        runt(10, 50, 1, 10, 51, 10, 50, 10);
        runt(10, 11, 1, 10, 11, 10);
        runt(10, 10, 0, 10, 11, 10);
        runt(-128, 127, 1, -128, 127, -128);
        runt(-128, 126, 0, -128, 127, -128);
        Triggerwright scope = new Triggerwright();
        scope.setRunt(0, 10, 50);
        Check.due("in the excursion", Scopes.firings(scope, 10, 11, 50), 0);
        Check.due("at the first sample behind it", Scopes.firings(scope, 10), 1);
        Check.due("at the next ones", Scopes.firings(scope, 10, 10), 0);
    }

    private static void sequence(int first, int second, int due, int... pairs) {
        Triggerwright scope = new Triggerwright();
        scope.setSequence(first, second, 0);
        String name = "at " + first + " and " + second + ": " + java.util.Arrays.toString(pairs);
        Check.due(name, Scopes.firingsPairs(scope, pairs), due);
    }

    private static void channelsRise() {
        terms("Sequence: channel c rises at a sample if the condition has looked at a sample just before, whose value of"
            + " this channel is at most the level of the channel, and the value of this sample is greater.");
        sequence(10, 20, 1, 10, 20, 11, 21);
        sequence(10, 20, 0, 11, 20, 12, 21);
        sequence(10, 20, 0, 10, 21, 11, 22);
        sequence(10, 20, 0, 10, 20, 10, 21);
        sequence(10, 20, 0, 10, 20, 11, 20);
        sequence(10, 20, 0, 11, 21);
        sequence(10, 20, 0, 11, 21, 12, 22);
        sequence(-128, -128, 1, -128, -128, -127, -127);
        sequence(126, 126, 1, 126, 126, 127, 127);
        sequence(127, 126, 0, 126, 126, 127, 127);
        sequence(126, 127, 0, 126, 126, 127, 127);
        sequence(127, -128, 0, -128, -128, 127, 127);
        sequence(-128, 126, 1, -128, 126, -127, 127);
        sequence(126, -128, 1, 126, -128, 127, -127);
    }

    private static void riseRemembered() {
        terms("When channel 0 rises, that is remembered in place of what was remembered before.");
        Triggerwright scope = new Triggerwright();
        scope.setSequence(0, 0, 2);
        Check.due("2 behind the second rise", Scopes.firingsPairs(scope, 0, 0, 1, 0, 0, 0, 1, 0, 1, 0, 1, 1), 1);
        scope.setSequence(0, 0, 2);
        Check.due("3 behind it", Scopes.firingsPairs(scope, 0, 0, 1, 0, 0, 0, 1, 0, 1, 0, 1, 0, 1, 1), 0);
        scope.setSequence(0, 0, 0);
        Check.due("the second rise at this sample", Scopes.firingsPairs(scope, 0, 0, 1, 0, 0, 0, 1, 1), 1);
    }

    /** Whether a sequence fires if channel 1 rises so many samples behind channel 0. */
    private static void span(int span, int behind, int due) {
        Triggerwright scope = new Triggerwright();
        scope.setSequence(0, 0, span);
        scope.push(0, 0, 1);
        Scopes.pushMany(scope, 1, behind);
        scope.push(1, 1, 1);
        Check.due("span " + span + ", " + behind + " behind", scope.fired(), due);
    }

    private static void sequenceFires() {
        terms("Then, when channel 1 rises at this or a later sample, and the number of that sample is at most as much"
            + " greater than the remembered one as the span tells, the condition fires,");
        span(0, 0, 1);
        span(0, 1, 0);
        span(2, 0, 1);
        span(2, 1, 1);
        span(2, 2, 1);
        span(2, 3, 0);
        span(100, 100, 1);
        span(100, 101, 0);
        span(100, 20000, 0);
        Triggerwright scope = new Triggerwright();
        scope.setSequence(0, 0, 100);
        Check.due("channel 1 rises before", Scopes.firingsPairs(scope, 0, 0, 0, 1, 1, 1), 0);
        scope.setSequence(0, 0, 100);
        Check.due("channel 1 alone rises", Scopes.firingsPairs(scope, 0, 0, 0, 1, 0, 0, 0, 1), 0);
        scope.setSequence(0, 0, 100);
        Check.due("channel 0 alone rises", Scopes.firingsPairs(scope, 0, 0, 1, 0, 0, 0, 1, 0), 0);
    }

    private static void nothingRemembered() {
        terms("and nothing is remembered any more.");
        Triggerwright scope = new Triggerwright();
        scope.setSequence(0, 0, 100);
        Check.due("it fires", Scopes.firingsPairs(scope, 0, 0, 1, 0, 1, 1), 1);
        Check.due("channel 1 rises again", Scopes.firingsPairs(scope, 1, 0, 1, 1), 0);
        Check.due("channel 0 too", Scopes.firingsPairs(scope, 0, 0, 1, 1), 1);
        Check.due("both rose at one sample, channel 1 again", Scopes.firingsPairs(scope, 1, 0, 1, 1), 0);
    }

    private static void conditionAtFirst() {
        terms("At first the condition is a rising edge on channel 0 with the level 0 and the hysteresis 0.");
        Check.due("from 0 to 1", Scopes.firings(new Triggerwright(), 0, 1), 1);
        Check.due("not ready at 1", Scopes.firings(new Triggerwright(), 1, 2), 0);
        Check.due("0 is not greater", Scopes.firings(new Triggerwright(), -1, 0), 0);
        Check.due("falling", Scopes.firings(new Triggerwright(), 1, 0, -1), 0);
        Check.due("on channel 1", Scopes.firingsSecond(new Triggerwright(), 0, 1), 0);
    }
}
