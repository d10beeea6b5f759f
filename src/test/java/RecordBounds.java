/** The boundaries of promises 16 to 23: questions about records. */
final class RecordBounds {
    private static final String NO_RECORD = "Throws IndexOutOfBoundsException if there is no such record";
    private static final String NO_CHANNEL = "Throws IllegalArgumentException if channel is out of range";
    private static final String NO_SIZE = "Throws IllegalArgumentException if channel or size is out of range";
    private static final String NO_GROUP =
        "Throws IndexOutOfBoundsException if there is no such record, or the group has no samples";
    private static final int MIN = Integer.MIN_VALUE;
    private static final int MAX = Integer.MAX_VALUE;

    private RecordBounds() {
    }

    static void all() {
        records();
        trigger();
        length();
        value();
        valuePositions();
        groupParameters();
        groupsThatThereAre();
        groupsThatWrap();
        low();
        high();
        mean();
        rescan();
        rescanAlone();
    }

    /** A question about a group of a record. */
    private interface Ask {
        int of(Triggerwright scope, int record, int channel, int size, int group);
    }

    /** The methods low, high and mean, promises 20 to 22. */
    private static final Ask[] ASKS = {
        (scope, record, channel, size, group) -> scope.low(record, channel, size, group),
        (scope, record, channel, size, group) -> scope.high(record, channel, size, group),
        (scope, record, channel, size, group) -> scope.mean(record, channel, size, group),
    };

    private static void records() {
        Check.sentence(16, "Returns the number of complete records.");
        Triggerwright scope = RecordTerms.armed(0, 1);
        Check.due("none yet", scope.records(), 0);
        for (int k = 1; k <= 8; k++) {
            Scopes.feed(scope, 0, 1);
            Check.due("one that is being caught does not count, " + k, scope.records(), k - 1);
            Scopes.feed(scope, 1);
            Check.due("complete", scope.records(), k);
        }
        Scopes.feed(scope, 0, 1, 1);
        Check.due("no more than 8", scope.records(), 8);
        scope.arm();
        Check.due("dropped", scope.records(), 0);
    }

    private static void trigger() {
        new Parameter(17, "record: its number", NO_RECORD, (scope, x) -> scope.trigger(x)).record();
        Check.sentence(17, "Returns the number of the trigger sample of a record.");
        Triggerwright scope = RecordTerms.armed(0, 0);
        Scopes.feed(scope, 0, 1);
        Check.due("the least that there can be", scope.trigger(0), 1);
        Scopes.pushMany(scope, 0, 25000);
        Scopes.feed(scope, 1);
        Check.due("a great one", scope.trigger(1), 25002);
        Check.sentence(17, "Returns the number of the sample.");
        Triggerwright behind = RecordTerms.armed(16, 32);
        Scopes.pushMany(behind, 0, 16);
        Scopes.pushMany(behind, 1, 33);
        Check.due("not of its first sample", behind.trigger(0), 16);
    }

    private static void length() {
        new Parameter(18, "record: its number", NO_RECORD, (scope, x) -> scope.length(x)).record();
        Check.sentence(18, "Returns the number of samples of a record.");
        Check.due("the least", Scopes.holding(1).length(0), 1);
        Triggerwright scope = RecordTerms.armed(16, 32);
        Scopes.pushMany(scope, 0, 16);
        Scopes.pushMany(scope, 1, 33);
        Check.sentence(18, "Returns the number of samples.");
        Check.due("the greatest", scope.length(0), 49);
    }

    private static void value() {
        String refusal = "Throws IndexOutOfBoundsException if there is no such record or no such position";
        new Parameter(19, "record: its number", refusal, (scope, x) -> scope.value(x, 1, 0)).record();
        new Parameter(19, "channel: 0 or 1", NO_CHANNEL, (scope, x) -> scope.value(0, x, 0))
            .takenAt(Situation.FULL).behindRecord().range(0, 1);
    }

    private static void valuePositions() {
        Check.sentence(19, "position: 0 for the first sample of the record");
        Triggerwright scope = Scopes.holding(10, 20, 30);
        Check.due("the first one", scope.value(0, 0, 0), 10);
        Check.due("the last one", scope.value(0, 0, 2), 30);
        Check.due("the last one of channel 1", scope.value(0, 1, 2), -30);
        Check.sentence(19, "Throws IndexOutOfBoundsException if there is no such record or no such position");
        for (Situation at : Situation.values()) {
            for (int record = 0; record < at.records; record++) {
                int r = record;
                for (int bad : new int[] {-1, at.make().length(r), 48, 49, MIN, MAX, 65536, -65536}) {
                    Refusals.outside("position " + bad + " of " + r, at, of -> of.value(r, 0, bad));
                }
            }
        }
        Triggerwright longest = RecordTerms.armed(16, 32);
        Scopes.pushMany(longest, 0, 16);
        Scopes.pushMany(longest, 1, 33);
        Check.due("position 48", longest.value(0, 0, 48), 1);
        Check.outside("position 49", () -> longest.value(0, 0, 49));
        Check.sentence(19, "Returns a value of a record.");
        Triggerwright bounds = Scopes.holding(127, -128);
        Check.due("the greatest", bounds.value(0, 0, 0), 127);
        Check.due("the least", bounds.value(0, 0, 1), -128);
        Check.sentence(19, "Returns the value.");
        Check.due("of channel 1", bounds.value(0, 1, 0), -127);
    }

    private static void groupParameters() {
        for (int k = 0; k < 3; k++) {
            Ask ask = ASKS[k];
            new Parameter(20 + k, "record: its number", NO_GROUP, (scope, x) -> ask.of(scope, x, 0, 1, 0)).record();
            new Parameter(20 + k, "channel: 0 or 1", NO_SIZE, (scope, x) -> ask.of(scope, 0, x, 1, 0))
                .takenAt(Situation.FULL).range(0, 1);
            new Parameter(20 + k, "size: 1 to 16", NO_SIZE, (scope, x) -> ask.of(scope, 0, 0, x, 0))
                .takenAt(Situation.FULL).range(1, 16);
        }
    }

    /** Checks that a record of these lengths has so many groups of a size. */
    private static void groups(int promise, Ask ask, int pre, int post, int size, int count) {
        Triggerwright scope = RecordTerms.armed(pre, post);
        Scopes.pushMany(scope, 0, 16);
        Scopes.pushMany(scope, 1, 33);
        String name = "size " + size + " of " + scope.length(0);
        Check.sentence(promise, "group: 0 for the first group");
        Check.taken(name + ": the first group", () -> ask.of(scope, 0, 0, size, 0));
        Check.taken(name + ": the last group", () -> ask.of(scope, 0, 1, size, count - 1));
        Check.sentence(promise, NO_GROUP);
        Check.outside(name + ": behind the last group", () -> ask.of(scope, 0, 0, size, count));
        Check.outside(name + ": before the first group", () -> ask.of(scope, 0, 0, size, -1));
    }

    private static void groupsThatThereAre() {
        for (int k = 0; k < 3; k++) {
            Ask ask = ASKS[k];
            groups(20 + k, ask, 16, 32, 16, 4);
            groups(20 + k, ask, 16, 31, 16, 3);
            groups(20 + k, ask, 16, 32, 1, 49);
            groups(20 + k, ask, 0, 0, 1, 1);
            groups(20 + k, ask, 0, 0, 16, 1);
            groups(20 + k, ask, 0, 15, 16, 1);
            groups(20 + k, ask, 0, 16, 16, 2);
            groups(20 + k, ask, 16, 32, 7, 7);
            groups(20 + k, ask, 16, 31, 7, 7);
            groups(20 + k, ask, 15, 32, 6, 8);
        }
    }

    /** As an int, size * group would be a position of the record again. */
    private static void groupsThatWrap() {
        int[][] wraps = {
            {16, 1 << 28}, {16, -(1 << 28)}, {16, MIN}, {2, MIN}, {2, MAX}, {4, 1 << 30}, {8, 1 << 29},
            {3, 1431655766}, {5, 858993460}, {15, 286331154}, {1, MIN}, {1, MAX}, {16, (1 << 28) + 1},
        };
        for (int k = 0; k < 3; k++) {
            Ask ask = ASKS[k];
            Check.sentence(20 + k, NO_GROUP);
            for (int[] wrap : wraps) {
                for (Situation at : Situation.values()) {
                    Refusals.outside("size " + wrap[0] + ", group " + wrap[1], at,
                        scope -> ask.of(scope, 0, 0, wrap[0], wrap[1]));
                }
            }
        }
    }

    private static void low() {
        Check.sentence(20, "Returns the least value of a group of a record: its samples from the position size * group on,"
            + " size of them, or as many as there are.");
        Triggerwright scope = Scopes.holding(5, 3, 4, -9, 7, 6, 2, -128);
        Check.due("the second of 3", scope.low(0, 0, 3, 0), 3);
        Check.due("the first of 3", scope.low(0, 0, 3, 1), -9);
        Check.due("the last of 2, all that there are", scope.low(0, 0, 3, 2), -128);
        Check.due("one", scope.low(0, 0, 1, 2), 4);
        Check.due("the last one", scope.low(0, 0, 1, 7), -128);
        Check.due("8 of 8", scope.low(0, 0, 8, 0), -128);
        Check.due("all 8 for 16", scope.low(0, 0, 16, 0), -128);
        Check.due("7 of 8", scope.low(0, 0, 7, 0), -9);
        Check.sentence(20, "Returns the least value.");
        Check.due("of channel 1", scope.low(0, 1, 3, 1), -7);
        Check.due("the greatest that there can be", Scopes.holding(127).low(0, 0, 16, 0), 127);
    }

    private static void high() {
        Check.sentence(21, "Returns the greatest value of a group of a record, as told at low.");
        Triggerwright scope = Scopes.holding(-5, -3, -4, 9, -7, -6, -2, 127);
        Check.due("the second of 3", scope.high(0, 0, 3, 0), -3);
        Check.due("the first of 3", scope.high(0, 0, 3, 1), 9);
        Check.due("the last of 2, all that there are", scope.high(0, 0, 3, 2), 127);
        Check.due("one", scope.high(0, 0, 1, 2), -4);
        Check.due("the last one", scope.high(0, 0, 1, 7), 127);
        Check.due("8 of 8", scope.high(0, 0, 8, 0), 127);
        Check.due("all 8 for 16", scope.high(0, 0, 16, 0), 127);
        Check.due("7 of 8", scope.high(0, 0, 7, 0), 9);
        Check.sentence(21, "Returns the greatest value.");
        Check.due("of channel 1", scope.high(0, 1, 3, 1), 7);
        Check.due("the least that there can be", Scopes.holding(1, -128).high(0, 0, 1, 1), -128);
    }

    private static void mean() {
        Check.sentence(22, "Returns the average value of a group of a record, as told at low, rounded down.");
        Triggerwright scope = Scopes.holding(3, 4, -3, -4, 0, -1, 5, 7, 9);
        Check.due("7 / 2", scope.mean(0, 0, 2, 0), 3);
        Check.due("-7 / 2", scope.mean(0, 0, 2, 1), -4);
        Check.due("-1 / 2", scope.mean(0, 0, 2, 2), -1);
        Check.due("12 / 2", scope.mean(0, 0, 2, 3), 6);
        Check.due("9 / 1, all that there are", scope.mean(0, 0, 2, 4), 9);
        Check.due("20 / 9, all that there are", scope.mean(0, 0, 16, 0), 2);
        Check.sentence(22, "Returns the sum of the values divided by their number, rounded down.");
        Check.due("of channel 1, -7 / 2", scope.mean(0, 1, 2, 0), -4);
        Check.due("of channel 1, 1 / 2", scope.mean(0, 1, 2, 2), 0);
        Check.due("of channel 1, -20 / 9", scope.mean(0, 1, 16, 0), -3);
        Triggerwright least = RecordTerms.armed(16, 0);
        Scopes.pushMany(least, -128, 16);
        Scopes.pushMany(least, 127, 1);
        Check.due("16 of -128", least.mean(0, 0, 16, 0), -128);
        Check.due("1 of 127", least.mean(0, 0, 16, 1), 127);
        Triggerwright greatest = RecordTerms.armed(0, 15);
        Scopes.feed(greatest, 0);
        Scopes.pushMany(greatest, 127, 16);
        Check.due("16 of 127", greatest.mean(0, 0, 16, 0), 127);
    }

    private static void rescan() {
        new Parameter(23, "record: its number", NO_RECORD, (scope, x) -> scope.rescan(x)).record();
        Check.sentence(23, "Returns the number of samples.");
        Triggerwright one = Scopes.holding(1);
        one.setEdge(0, 0, 0, true);
        Check.due("a record of one", one.rescan(0), 0);
        Triggerwright most = RecordTerms.armed(16, 32);
        most.push(0, 0, 15);
        for (int k = 0; k < 25; k++) {
            Scopes.feed(most, 0, 1);
        }
        Check.due("the longest record, 0 15 times, then 0 and 1", most.rescan(0), 17);
        most.setEdge(0, 0, 1, true);
        Check.due("the present settings", most.rescan(0), 0);
        most.setEdge(0, 1, 0, false);
        Check.due("falling", most.rescan(0), 16);
    }

    private static void rescanAlone() {
        Check.sentence(23, "Counts at how many samples of a record a condition with the present settings would fire if it"
            + " began anew just before the first sample of the record and looked at its samples alone.");
        Triggerwright scope = Scopes.holding(9, 9, 0, 9, 9, 9);
        scope.setEdge(0, 0, 0, true);
        Check.due("an edge, its first sample is no edge", scope.rescan(0), 1);
        scope.setWidth(0, 0, 1, 9, true);
        Check.due("a pulse before it is not seen, one does not end in it", scope.rescan(0), 0);
        scope.setWidth(0, 0, 1, 1, false);
        Check.due("a low pulse", scope.rescan(0), 1);
        scope.setRunt(0, 0, 9);
        Check.due("an excursion before it is not seen, one does not end in it", scope.rescan(0), 0);
        scope.setSequence(0, 0, 9);
        Check.due("a sequence", scope.rescan(0), 0);
        Triggerwright two = RecordTerms.armed(1, 0);
        Scopes.feed(two, 0, 0, 1);
        Check.due("an edge that gets ready at the first sample of all", two.rescan(0), 1);
        Triggerwright late = RecordTerms.armed(0, 3);
        Scopes.pushMany(late, 0, 1000);
        Scopes.feedPairs(late, 1, 0, 0, 0, 1, 1, 0, 0);
        late.setSequence(0, 0, 0);
        Check.due("a sequence in the record", late.rescan(0), 1);
        Check.sentence(23, "Nothing changes.");
        for (Situation at : Situation.values()) {
            for (Aftermath after : Aftermath.values()) {
                Triggerwright asked = at.make();
                for (int record = 0; record < at.records; record++) {
                    asked.rescan(record);
                }
                Check.same("rescan at " + at + ", by its " + after, after.of(asked), at.unchanged(after));
            }
        }
    }
}
