/** The boundaries of records and of the mask, as 'Terms' tells them. */
final class RecordTerms {
    private RecordTerms() {
    }

    static void all() {
        callsOfAnObject();
        armedAtFirst();
        lengthsOfRecords();
        lengthsAtFirst();
        triggersOnlyWhenArmed();
        triggersOnlyWhenNotCatching();
        triggersBehindThePreLength();
        triggersBeyondTheHoldoff();
        latestTrigger();
        holdoffAtFirst();
        caughtUntil();
        completingSample();
        completeAtOnce();
        numbersOfRecords();
        eightRecords();
        maskPositions();
        maskAsItIsThen();
        offences();
        failures();
    }

    private static void terms(String words) {
        Check.sentence(Sentences.TERMS, words);
    }

    /** A scope that is armed, with these lengths. */
    static Triggerwright armed(int pre, int post) {
        Triggerwright scope = new Triggerwright();
        scope.setLengths(pre, post);
        scope.arm();
        return scope;
    }

    private static void callsOfAnObject() {
        Check.sentence(Sentences.WHAT_IT_IS, "An object is used for at most 512 calls after it has been made;");
        Triggerwright full = new Triggerwright();
        for (int k = 1; k <= 511; k++) {
            full.push(0, 0, 50);
        }
        Check.due("samples, as call 512", full.samples(), 25550);
        Triggerwright scope = armed(16, 32);
        for (int k = 3; k <= 510; k++) {
            scope.push(0, 0, 50);
        }
        Check.due("push, as call 511", scope.push(1, 0, 50), 1);
        Check.due("trigger, as call 512", scope.trigger(0), 25400);
    }

    private static void armedAtFirst() {
        terms("The scope is armed or not; at first it is not.");
        Triggerwright scope = new Triggerwright();
        Check.due("isArmed", scope.isArmed(), false);
        Scopes.feed(scope, 0, 0, 0, 0, 1);
        Check.due("it fires", scope.fired(), 1);
        Check.due("without a trigger", scope.isCatching(), false);
        Check.due("and without a record", Scopes.pushMany(scope, 1, 50), 0);
    }

    /** A record of samples that rise by 1 each, from the trigger sample 1 on, behind samples of channel 1 that fall. */
    private static void lengthsOf(int pre, int post) {
        Triggerwright scope = armed(pre, post);
        scope.ramp(-20, 20, 1, -1, 50);
        scope.push(30, -30, 10);
        String name = pre + " and " + post;
        Check.due(name + ": records", scope.records(), 1);
        Check.due(name + ": length", scope.length(0), pre + 1 + post);
        Check.due(name + ": trigger", scope.trigger(0), 21);
        for (int position = 0; position <= pre + post; position++) {
            int value = position - pre + 1;
            Check.due(name + ": channel 0 at " + position, scope.value(0, 0, position), Math.min(30, value));
            Check.due(name + ": channel 1 at " + position, scope.value(0, 1, position), Math.max(-30, -value));
        }
        Check.outside(name + ": no more samples", () -> scope.value(0, 0, pre + 1 + post));
    }

    private static void lengthsOfRecords() {
        terms("A record has as many samples before its trigger as the pre-length tells, the trigger sample, and as many"
            + " behind it as the post-length tells;");
        for (int pre : new int[] {0, 1, 15, 16}) {
            for (int post : new int[] {0, 1, 31, 32}) {
                lengthsOf(pre, post);
            }
        }
    }

    private static void lengthsAtFirst() {
        terms("both lengths are 4 and 8 at first.");
        Triggerwright few = new Triggerwright();
        few.arm();
        Scopes.feed(few, 0, 0, 0, 1);
        Check.due("3 samples before", few.isCatching(), false);
        Triggerwright scope = new Triggerwright();
        scope.arm();
        Scopes.feed(scope, 0, 0, 0, 0, 1);
        Check.due("4 samples before", scope.isCatching(), true);
        Check.due("7 samples behind", Scopes.pushMany(scope, 2, 7), 0);
        Check.due("8 samples behind", Scopes.pushMany(scope, 2, 1), 1);
        Check.due("length", scope.length(0), 13);
        Check.due("the sample before the trigger", scope.value(0, 0, 3), 0);
        Check.due("the trigger sample", scope.value(0, 0, 4), 1);
        Check.due("the sample behind it", scope.value(0, 0, 5), 2);
    }

    private static void triggersOnlyWhenArmed() {
        terms("If the condition fires at a sample, this is a trigger if the scope is armed,");
        Triggerwright scope = new Triggerwright();
        scope.setLengths(0, 0);
        Scopes.feed(scope, 0, 1, 0);
        Check.due("not armed", scope.records(), 0);
        scope.arm();
        Check.due("no sample yet", scope.records(), 0);
        Check.due("armed", Scopes.feed(scope, 1, 0), 1);
        scope.disarm();
        Check.due("not armed any more", Scopes.feed(scope, 1, 0, 1), 0);
    }

    private static void triggersOnlyWhenNotCatching() {
        terms("no record is being caught,");
        Triggerwright scope = armed(0, 3);
        Scopes.feed(scope, 0, 1, 0, 1);
        Check.due("it fires twice", scope.fired(), 2);
        Check.due("caught on", scope.isCatching(), true);
        Scopes.feed(scope, 5);
        Check.due("the first trigger stays", scope.trigger(0), 1);
        Check.due("its last sample", scope.value(0, 0, 3), 5);
        Check.due("nothing else is caught", scope.isCatching(), false);
    }

    /** Whether the condition's firing at a sample with so many before it is a trigger. */
    private static void before(int pre, int samples, boolean armedBefore, int due) {
        Triggerwright scope = new Triggerwright();
        scope.setLengths(pre, 0);
        if (armedBefore) {
            scope.arm();
        }
        Scopes.pushMany(scope, 0, samples);
        if (!armedBefore) {
            scope.arm();
        }
        scope.push(1, 0, 1);
        Check.due("it fires", scope.fired(), 1);
        Check.due(samples + " samples before for " + pre + ", armed before: " + armedBefore, scope.records(), due);
    }

    private static void triggersBehindThePreLength() {
        terms("at least as many samples came before it as the pre-length tells (whether armed or not),");
        for (boolean armedBefore : new boolean[] {true, false}) {
            before(0, 1, armedBefore, 1);
            before(1, 1, armedBefore, 1);
            before(2, 1, armedBefore, 0);
            before(2, 2, armedBefore, 1);
            before(15, 15, armedBefore, 1);
            before(16, 15, armedBefore, 0);
            before(16, 16, armedBefore, 1);
            before(16, 17, armedBefore, 1);
        }
    }

    /** Whether a firing so many samples behind a trigger is another trigger. */
    private static void behindTrigger(int holdoff, int samples, int due) {
        Triggerwright scope = armed(0, 0);
        scope.setHoldoff(holdoff);
        Scopes.feed(scope, 0, 1);
        Scopes.pushMany(scope, 0, samples - 1);
        Check.due(samples + " behind, by " + holdoff, Scopes.feed(scope, 1), due);
        Check.due("it fires", scope.fired(), 2);
    }

    private static void triggersBeyondTheHoldoff() {
        terms("and, if there was a trigger since the scope was armed, the number of the sample is greater than that of the"
            + " latest trigger by more than the holdoff,");
        behindTrigger(0, 2, 1);
        behindTrigger(1, 2, 1);
        behindTrigger(2, 2, 0);
        behindTrigger(2, 3, 1);
        behindTrigger(999, 999, 0);
        behindTrigger(999, 1000, 1);
        behindTrigger(1000, 1000, 0);
        behindTrigger(1000, 1001, 1);
        Triggerwright scope = new Triggerwright();
        scope.setLengths(0, 0);
        scope.setHoldoff(1000);
        Scopes.feed(scope, 0, 1, 0);
        scope.arm();
        Check.due("there was no trigger yet", Scopes.feed(scope, 1), 1);
        scope.arm();
        Check.due("nor since it was armed", Scopes.feed(scope, 0, 1), 1);
    }

    private static void latestTrigger() {
        terms("the number of the sample is greater than that of the latest trigger by more than the holdoff,");
        Triggerwright scope = armed(0, 0);
        scope.setHoldoff(3);
        Scopes.feed(scope, 0, 1, 0, 1);
        Check.due("2 behind it", scope.records(), 1);
        Scopes.feed(scope, 0, 1);
        Check.due("4 behind it, but 2 behind one that was no trigger", scope.records(), 2);
        Scopes.feed(scope, 0, 1);
        Check.due("6 behind the first one, but 2 behind the latest", scope.records(), 2);
        Scopes.feed(scope, 0, 1);
        Check.due("4 behind the latest", scope.records(), 3);
        Triggerwright caught = armed(0, 4);
        caught.setHoldoff(5);
        Scopes.feed(caught, 0, 1, 0, 0, 0, 0, 1);
        Check.due("5 behind, right behind the record", caught.isCatching(), false);
        Triggerwright longer = armed(0, 4);
        longer.setHoldoff(4);
        Scopes.feed(longer, 0, 1, 0, 0, 0, 0, 1);
        Check.due("5 behind, by 4", longer.isCatching(), true);
    }

    private static void holdoffAtFirst() {
        terms("which is 0 at first.");
        Triggerwright scope = armed(0, 0);
        Check.due("2 behind, the fewest that there can be", Scopes.feed(scope, 0, 1, 0, 1), 2);
        Check.due("the holdoff before", scope.setHoldoff(7), 0);
    }

    private static void caughtUntil(int post) {
        Triggerwright scope = armed(0, post);
        Scopes.feed(scope, 0);
        Check.due("no trigger yet", scope.isCatching(), false);
        Check.due("the trigger sample", Scopes.feed(scope, 1), 0);
        for (int k = 1; k < post; k++) {
            Check.due("caught until sample " + k + " of " + post, scope.isCatching(), true);
            Check.due("not complete with sample " + k + " of " + post, Scopes.feed(scope, 1), 0);
        }
        Check.due("caught until the last one of " + post, scope.isCatching(), true);
        Check.due("complete with the last one of " + post, Scopes.feed(scope, 1), 1);
        Check.due("not caught any more", scope.isCatching(), false);
        Check.due("a complete record", scope.records(), 1);
    }

    private static void caughtUntil() {
        terms("A record is being caught from its trigger sample until as many samples have come behind it as the"
            + " post-length tells; then it is complete.");
        caughtUntil(1);
        caughtUntil(2);
        caughtUntil(31);
        caughtUntil(32);
    }

    private static void completingSample() {
        terms("The sample with which it becomes complete still belongs to it, so it cannot be another trigger.");
        Triggerwright scope = armed(0, 2);
        Check.due("complete", Scopes.feed(scope, 0, 1, 0, 9), 1);
        Check.due("it fires there", scope.fired(), 2);
        Check.due("it is no trigger", scope.isCatching(), false);
        Check.due("it belongs to the record", scope.value(0, 0, 2), 9);
        Triggerwright dense = armed(0, 1);
        Check.due("complete", Scopes.feed(dense, 0, 1, 0), 1);
        Scopes.feed(dense, 1);
        Check.due("the sample behind it is a trigger", dense.isCatching(), true);
    }

    private static void completeAtOnce() {
        terms("(With the post-length 0 a record is complete at once.)");
        Triggerwright scope = armed(0, 0);
        Check.due("with the trigger sample", Scopes.feed(scope, 0, 1), 1);
        Check.due("not caught", scope.isCatching(), false);
        Check.due("its length", scope.length(0), 1);
        Check.due("the next one", Scopes.feed(scope, 0, 2), 1);
        Check.due("its value", scope.value(1, 0, 0), 2);
        Triggerwright before = armed(16, 0);
        Scopes.pushMany(before, 0, 16);
        Check.due("with samples before it", Scopes.feed(before, 1), 1);
        Check.due("its length", before.length(0), 17);
    }

    private static void numbersOfRecords() {
        terms("Complete records are numbered from 0.");
        Triggerwright scope = armed(0, 1);
        Check.outside("nothing yet", () -> scope.trigger(0));
        Scopes.feed(scope, 0, 1);
        Check.outside("one that is being caught", () -> scope.trigger(0));
        Scopes.feed(scope, 0, 1, 0);
        Check.due("the first one", scope.trigger(0), 1);
        Check.due("the second one", scope.trigger(1), 3);
        Check.outside("no third one", () -> scope.trigger(2));
        Check.outside("none before the first one", () -> scope.trigger(-1));
    }

    private static void eightRecords() {
        terms("When there are 8 complete records, the scope is not armed any more.");
        Triggerwright scope = armed(0, 1);
        for (int k = 1; k <= 7; k++) {
            Check.due("record " + k, Scopes.feed(scope, 0, k, k), 1);
            Check.due("armed with " + k, scope.isArmed(), true);
        }
        Scopes.feed(scope, 0, 8);
        Check.due("armed while the eighth one is being caught", scope.isArmed(), true);
        Check.badState("so that the lengths stay", () -> scope.setLengths(0, 0));
        Check.due("the eighth", Scopes.feed(scope, 8), 1);
        Check.due("not armed with 8", scope.isArmed(), false);
        Check.due("no ninth", Scopes.feed(scope, 0, 9, 9, 0, 10, 10), 0);
        Check.due("8 records", scope.records(), 8);
        for (int k = 0; k < 8; k++) {
            Check.due("value of record " + k, scope.value(k, 0, 0), k + 1);
        }
        scope.setLengths(0, 0);
        Check.due("disarm", scope.disarm(), false);
        Check.due("8 are dropped", scope.arm(), 8);
        Check.due("armed again", Scopes.feed(scope, 0, 9), 1);
    }

    /** A scope that has caught 49 samples, with one value at the position, and limits at some positions. */
    private static Triggerwright extremeAt(int position, int value, int maskFrom, int maskTo) {
        Triggerwright scope = armed(16, 32);
        scope.setSequence(-1, 0, 0);
        scope.setMask(maskFrom, maskTo, -100, 100);
        for (int k = -1; k < 49; k++) {
            int first = k == 15 ? -1 : k == position ? value : 0;
            scope.push(first, k == 16 ? 1 : 0, 1);
        }
        return scope;
    }

    private static void maskPositions() {
        terms("The mask has for each position of 0 to 48 of a record perhaps a least and a greatest value; at first it has"
            + " none.");
        for (int position : new int[] {0, 1, 14, 16, 47, 48}) {
            int value = position % 2 == 0 ? 127 : -128;
            Triggerwright all = extremeAt(position, value, 0, 48);
            Check.due("an offence at " + position, all.firstOffence(), position);
            Triggerwright just = extremeAt(position, value, position, position);
            Check.due("limits at this position alone, " + position, just.failures(), 1);
            int other = position == 48 ? 47 : position + 1;
            Triggerwright beside = extremeAt(position, value, other, other);
            Check.due("limits beside it alone, " + position, beside.failures(), 0);
        }
        Triggerwright scope = armed(0, 32);
        Scopes.feed(scope, 0, 127);
        scope.push(-128, 0, 32);
        Check.due("a record", scope.records(), 1);
        Check.due("no mask at first", scope.failures(), 0);
        Check.nothingThere("nor an offence", () -> scope.firstOffence());
    }

    private static void maskAsItIsThen() {
        terms("When a record becomes complete, the values of channel 0 are compared with the mask as it is then:");
        Triggerwright scope = armed(0, 1);
        Scopes.feed(scope, 0, 9);
        scope.setMask(0, 0, 0, 5);
        Check.due("set before it is complete", scope.failures(), 0);
        Scopes.feed(scope, 9);
        Check.due("complete", scope.failures(), 1);
        Scopes.feed(scope, 0, 9);
        scope.clearMask();
        Scopes.feed(scope, 9);
        Check.due("cleared before it is complete", scope.failures(), 1);
        scope.setMask(0, 0, 0, 5);
        Check.due("set when it is complete", scope.failures(), 1);
        scope.push(0, 99, 1);
        scope.push(1, 99, 2);
        Check.due("channel 1 is not compared", scope.failures(), 1);
        scope.setMask(2, 48, 100, 100);
        Scopes.feed(scope, 0, 1, 1);
        Check.due("positions behind the record", scope.failures(), 1);
        Check.due("records", scope.records(), 4);
    }

    /** Whether a value of position 1 is an offence. */
    private static void offence(int least, int greatest, int value, int due) {
        Triggerwright scope = armed(0, 1);
        scope.setMask(1, 1, least, greatest);
        Scopes.feed(scope, 0, 1, value);
        Check.due(value + " for " + least + " to " + greatest, scope.failures(), due);
    }

    private static void offences() {
        terms("each position at which the value is less than the least or greater than the greatest one is an offence.");
        offence(-10, 20, -11, 1);
        offence(-10, 20, -10, 0);
        offence(-10, 20, 20, 0);
        offence(-10, 20, 21, 1);
        offence(5, 5, 4, 1);
        offence(5, 5, 5, 0);
        offence(5, 5, 6, 1);
        offence(-128, 127, -128, 0);
        offence(-128, 127, 127, 0);
        offence(-128, -128, -128, 0);
        offence(-128, -128, -127, 1);
        offence(127, 127, 127, 0);
        offence(127, 127, 126, 1);
        offence(-127, 126, -128, 1);
        offence(-127, 126, 127, 1);
    }

    private static void failures() {
        terms("A record with an offence is a failure.");
        Triggerwright scope = armed(0, 2);
        scope.setMask(0, 2, 0, 5);
        Scopes.feed(scope, 0, 1, 1, 1);
        Check.due("no offence", scope.failures(), 0);
        Scopes.feed(scope, 0, 1, 1, 6);
        Check.due("one offence", scope.failures(), 1);
        Scopes.feed(scope, 0, 6, 6, -1);
        Check.due("three offences", scope.failures(), 2);
        Scopes.feed(scope, 0, 6, 6);
        Check.due("not before it is complete", scope.failures(), 2);
    }
}
