import java.util.Arrays;

/** The boundaries of promises 34 to 39: measurements. */
final class MeasureBounds {
    private static final String NO_RECORD = "Throws IndexOutOfBoundsException if there is no such record";
    private static final String NO_SOURCE = "Throws IllegalArgumentException if source is out of range";
    private static final String NO_TRACE =
        "Throws IllegalStateException if source is 2, and the stack has not just one part";
    private static final int MIN = Integer.MIN_VALUE;
    private static final int MAX = Integer.MAX_VALUE;

    private MeasureBounds() {
    }

    /** A measurement of a source of a record; its other arguments let it find something, if it can. */
    private interface Measure {
        Object of(Triggerwright scope, int record, int source);
    }

    /** Promises 34 to 39, in their order. */
    private static final Measure[] MEASURES = {
        (scope, record, source) -> scope.least(record, source),
        (scope, record, source) -> scope.greatest(record, source),
        (scope, record, source) -> scope.average(record, source),
        (scope, record, source) -> scope.crossings(record, source, 0),
        (scope, record, source) -> scope.period(record, source, 0),
        (scope, record, source) -> scope.riseTime(record, source, 0, 1),
    };

    static void all() {
        records();
        sources();
        traces();
        least();
        greatest();
        average();
        crossings();
        crossingLevels();
        period();
        fewCrossings();
        riseTime();
        riseTimeBounds();
        riseTimeNone();
    }

    /** A scope with 8 records in each of which every measurement finds something, of every source. */
    private static Triggerwright measurable() {
        Triggerwright scope = RecordTerms.armed(0, 4);
        scope.putChannel(0);
        for (int k = 1; k <= 8; k++) {
            Scopes.feedPairs(scope, 0, 0, 1, 1, 0, 0, 1, 1, 0, 0, 1, 1);
        }
        return scope;
    }

    private static void records() {
        for (int k = 0; k < MEASURES.length; k++) {
            Measure measure = MEASURES[k];
            Check.sentence(34 + k, "record: its number");
            for (int source = 0; source <= 2; source++) {
                int s = source;
                Check.taken("the first record, source " + s, () -> measure.of(measurable(), 0, s));
                Check.taken("the last record, source " + s, () -> measure.of(measurable(), 7, s));
            }
            Check.sentence(34 + k, NO_RECORD);
            Check.outside("record 8 of 8", () -> measure.of(measurable(), 8, 0));
            for (Situation at : Situation.values()) {
                for (int bad : new int[] {-1, at.records, 8, MIN, MAX, 65536}) {
                    Refusals.outside("record " + bad, at, scope -> measure.of(scope, bad, 0));
                    Refusals.outside("record " + bad + " of the trace", at, scope -> measure.of(scope, bad, 2));
                }
            }
        }
    }

    private static void sources() {
        for (int k = 0; k < MEASURES.length; k++) {
            Measure measure = MEASURES[k];
            Check.sentence(34 + k, "source: 0 to 2");
            Check.taken("source 0", () -> measure.of(measurable(), 0, 0));
            Check.taken("source 2", () -> measure.of(measurable(), 0, 2));
            String refusal = k == 5 ? NO_SOURCE + ", or high is not greater than low" : NO_SOURCE;
            Check.sentence(34 + k, refusal);
            for (Situation at : Situation.values()) {
                for (int bad : new int[] {-1, 3, MIN, MAX, 256, 258, -254, 65536, 65538}) {
                    if (at.records == 0) {
                        Refusals.outside("source " + bad, at, scope -> measure.of(scope, 0, bad));
                    } else {
                        Refusals.illegal("source " + bad, at, scope -> measure.of(scope, at.records - 1, bad));
                    }
                }
            }
        }
    }

    private static void traces() {
        for (int k = 0; k < MEASURES.length; k++) {
            Measure measure = MEASURES[k];
            Check.sentence(34 + k, NO_TRACE);
            Refusals.badState("an empty stack", Situation.PULSE, scope -> measure.of(scope, 0, 2));
            Refusals.badState("three parts", Situation.EXCURSION, scope -> measure.of(scope, 0, 2));
            Triggerwright scope = measurable();
            Check.taken("one part", () -> measure.of(scope, 0, 2));
            scope.putChannel(0);
            Check.badState("two parts", () -> measure.of(scope, 0, 2));
            Check.taken("two parts are no matter for channel 0", () -> measure.of(scope, 0, 0));
            Check.taken("nor for channel 1", () -> measure.of(scope, 0, 1));
            scope.clearTrace();
            Check.badState("no part", () -> measure.of(scope, 0, 2));
            Check.taken("no part is no matter for channel 1", () -> measure.of(scope, 0, 1));
        }
    }

    /** A scope with a record of such values, and a trace that is a million times each. */
    private static Triggerwright millions(int... values) {
        Triggerwright scope = Scopes.holding(values);
        scope.putChannel(0);
        scope.putConstant(1000);
        scope.combine(2);
        scope.putConstant(1000);
        scope.combine(2);
        return scope;
    }

    /** A scope with the longest record, its trace a million times channel 0. */
    private static Triggerwright longest(int before, int behind) {
        Triggerwright scope = millions(1);
        scope.setLengths(16, 32);
        scope.setEdge(1, 0, 0, true);
        scope.arm();
        scope.push(before, 0, 16);
        scope.push(behind, 1, 33);
        return scope;
    }

    private static void least() {
        Check.sentence(34, "Returns the least value of a source in a record.");
        Check.due("the first of all", Scopes.holding(1, 2, 3).least(0, 0), 1);
        Check.due("the last of all", Scopes.holding(3, 2, 1).least(0, 0), 1);
        Check.due("of one", Scopes.holding(127).least(0, 0), 127);
        Check.due("the least that there can be", Scopes.holding(1, -128, 2).least(0, 0), -128);
        Check.due("of channel 1", Scopes.holding(1, 127, 2).least(0, 1), -127);
        Check.sentence(34, "Returns the least value.");
        Check.due("of the trace, down to its bound", millions(1, -1, 0).least(0, 2), -1000000);
        Check.due("of the trace, up to its bound", millions(1, 1).least(0, 2), 1000000);
        Check.due("position 0 of 49", longest(-5, 5).least(0, 0), -5);
        Check.due("position 48 of 49", longest(5, -5).least(0, 0), -5);
    }

    private static void greatest() {
        Check.sentence(35, "Returns the greatest value of a source in a record.");
        Check.due("the first of all", Scopes.holding(3, 2, 1).greatest(0, 0), 3);
        Check.due("the last of all", Scopes.holding(1, 2, 3).greatest(0, 0), 3);
        Check.due("of one", Scopes.holding(-127).greatest(0, 0), -127);
        Check.due("the greatest that there can be", Scopes.holding(1, 127, 2).greatest(0, 0), 127);
        Check.due("of channel 1", Scopes.holding(1, -128, 2).greatest(0, 1), 127);
        Check.sentence(35, "Returns the greatest value.");
        Check.due("of the trace, up to its bound", millions(-1, 1, 0).greatest(0, 2), 1000000);
        Check.due("of the trace, down to its bound", millions(-1, -1).greatest(0, 2), -1000000);
        Check.due("position 0 of 49", longest(5, -5).greatest(0, 0), 5);
        Check.due("position 48 of 49", longest(-5, 5).greatest(0, 0), 5);
    }

    private static void average() {
        Check.sentence(36, "Returns the average value of a source in a record.");
        Check.due("of one", Scopes.holding(7).average(0, 0), 7.0);
        Check.due("not rounded", Scopes.holding(1, 2).average(0, 0), 1.5);
        Check.due("not rounded below 0", Scopes.holding(1, 2).average(0, 1), -1.5);
        Check.due("nothing", Scopes.holding(1, -1).average(0, 0), 0.0);
        Check.sentence(36, "Returns the sum of its values, as a double, divided by their number, as a double.");
        Check.due("thirds", Scopes.holding(1, 1, 0).average(0, 0), 2.0 / 3.0);
        Check.due("of 49", longest(0, 1).average(0, 0), 33.0 / 49.0);
        Check.due("the greatest sum", longest(1, 1).average(0, 2), 49000000.0 / 49.0);
        Check.due("the least sum", longest(-1, -1).average(0, 2), -49000000.0 / 49.0);
        Check.due("16 less and 33 more", longest(-1, 1).average(0, 2), 17000000.0 / 49.0);
    }

    private static void crossed(int level, int due, int... values) {
        String name = "at " + level + ": " + Arrays.toString(values);
        Check.due(name, Scopes.holding(values).crossings(0, 0, level), due);
    }

    private static void crossings() {
        Check.sentence(37, "Counts the crossings of a source in a record: the positions of 1 or more at which its value is"
            + " greater than the level, while the one before is not.");
        crossed(5, 1, 5, 6);
        crossed(5, 0, 5, 5);
        crossed(5, 0, 6, 7);
        crossed(5, 0, 6, 5);
        crossed(5, 0, 6);
        crossed(5, 1, 6, 5, 6);
        crossed(5, 2, 5, 6, 5, 6, 7);
        Check.sentence(37, "Returns the number of crossings.");
        Check.due("at position 16 of 49", longest(0, 1).crossings(0, 0, 0), 1);
        Check.due("of channel 1", longest(0, 0).crossings(0, 1, 0), 1);
        Triggerwright last = RecordTerms.armed(16, 32);
        last.setEdge(1, 0, 0, true);
        last.push(0, 0, 16);
        last.push(0, 1, 32);
        last.push(1, 1, 1);
        Check.due("at position 48", last.crossings(0, 0, 0), 1);
        Triggerwright most = RecordTerms.armed(16, 32);
        for (int k = 0; k < 40; k++) {
            Scopes.feed(most, 0, 1);
        }
        Check.due("at 24 of 49 positions, the first one is a 1", most.crossings(0, 0, 0), 24);
    }

    private static void crossingLevels() {
        Check.sentence(37, "level: any number");
        Triggerwright scope = millions(1, -1, 1, -1);
        for (int source = 0; source <= 2; source++) {
            Check.due("the least, source " + source, scope.crossings(0, source, MIN), 0);
            Check.due("the greatest, source " + source, scope.crossings(0, source, MAX), 0);
        }
        Check.due("just below the values", scope.crossings(0, 2, -1000001), 0);
        Check.due("at the lesser one", scope.crossings(0, 2, -1000000), 1);
        Check.due("just below the greater one", scope.crossings(0, 2, 999999), 1);
        Check.due("at the greater one", scope.crossings(0, 2, 1000000), 0);
        Check.due("65536 more than 0", scope.crossings(0, 0, 65536), 0);
        crossed(-128, 1, 1, -128, -127);
        crossed(-129, 0, 1, -128, -127);
        crossed(126, 1, 126, 127);
        crossed(127, 0, 126, 127);
        Check.sentence(38, "level: any number");
        Check.nothingThere("the least", () -> millions(1, -1, 1, -1, 1).period(0, 2, MIN));
        Check.nothingThere("the greatest", () -> millions(1, -1, 1, -1, 1).period(0, 2, MAX));
        Check.due("at the lesser one", millions(1, -1, 1, -1, 1).period(0, 2, -1000000), 2.0);
        Check.nothingThere("just below", () -> millions(1, -1, 1, -1, 1).period(0, 2, -1000001));
        Check.due("just below the greater one", millions(1, -1, 1, -1, 1).period(0, 2, 999999), 2.0);
        Check.nothingThere("at the greater one", () -> millions(1, -1, 1, -1, 1).period(0, 2, 1000000));
    }

    private static void period() {
        Check.sentence(38, "Returns the period of a source in a record.");
        Check.due("1 and 3", Scopes.holding(1, 2, 1, 2).period(0, 0, 1), 2.0);
        Check.due("of channel 1", Scopes.holding(2, 1, 2, 1).period(0, 1, -2), 2.0);
        Check.sentence(38, "Returns the position of the last crossing less that of the first one, as a double, divided by the"
            + " number of crossings less 1, as a double.");
        Check.due("1, 3 and 6", Scopes.holding(1, 2, 1, 2, 1, 1, 2, 1).period(0, 0, 1), 2.5);
        Check.due("1, 3, 5 and 9", Scopes.holding(1, 2, 1, 2, 1, 2, 1, 1, 1, 2).period(0, 0, 1), 8.0 / 3.0);
        Check.due("a first value above is no crossing", Scopes.holding(9, 1, 2, 1, 1, 2).period(0, 0, 1), 3.0);
        Triggerwright far = RecordTerms.armed(16, 32);
        far.setEdge(1, 0, 0, true);
        far.push(0, 0, 1);
        far.push(1, 0, 1);
        far.push(0, 0, 14);
        far.push(0, 1, 32);
        far.push(1, 1, 1);
        Check.due("1 and 48", far.period(0, 0, 0), 47.0);
    }

    private static void fewCrossings() {
        Check.sentence(38, "Throws NoSuchElementException if there are less than two crossings");
        Check.nothingThere("a record of one", () -> Scopes.holding(2).period(0, 0, 1));
        Check.nothingThere("none", () -> Scopes.holding(2, 1).period(0, 0, 1));
        Check.nothingThere("one", () -> Scopes.holding(2, 1, 2).period(0, 0, 1));
        Check.due("two", Scopes.holding(2, 1, 2, 1, 2).period(0, 0, 1), 2.0);
        for (Situation at : Situation.values()) {
            for (int record = 0; record < at.records; record++) {
                int r = record;
                Refusals.nothingThere("period of " + r, at, scope -> scope.period(r, 0, 0));
            }
        }
        Check.sentence(38, NO_TRACE);
        Check.badState("that comes first", () -> Scopes.holding(2).period(0, 2, 1));
    }

    private static void rises(int low, int high, int due, int... values) {
        String name = "from " + low + " to " + high + ": " + Arrays.toString(values);
        Check.due(name, Scopes.holding(values).riseTime(0, 0, low, high), due);
    }

    private static void riseTime() {
        Check.sentence(39, "Returns how many samples a source takes to rise in a record.");
        rises(1, 2, 1, 1, 2);
        rises(1, 5, 4, 1, 2, 3, 4, 5);
        Check.due("of channel 1", Scopes.holding(5, 4, 3).riseTime(0, 1, -5, -3), 2);
        Check.sentence(39, "Returns the position of the first value of at least high that has a value of at most low somewhere"
            + " before it, less the position of the last value of at most low before it.");
        rises(1, 5, 2, 1, 2, 5);
        rises(1, 5, 2, 1, 2, 6);
        rises(1, 5, 3, 1, 2, 4, 5);
        rises(1, 5, 1, 1, 1, 5);
        rises(1, 5, 2, 1, 1, 2, 5);
        rises(1, 5, 2, 0, 2, 5);
        rises(1, 5, 1, 5, 5, 1, 5, 1, 2, 5);
        rises(1, 5, 1, 1, 5, 5, 5);
        rises(1, 5, 1, 9, 1, 5);
        Triggerwright far = RecordTerms.armed(16, 32);
        far.setEdge(1, 0, 0, true);
        far.push(1, 0, 1);
        far.push(2, 0, 15);
        far.push(2, 1, 32);
        far.push(5, 1, 1);
        Check.due("from 0 to 48", far.riseTime(0, 0, 1, 5), 48);
    }

    private static void riseTimeBounds() {
        Check.sentence(39, "high: a number greater than low");
        int[][] taken = {{MIN, MAX}, {-2, MAX}, {MIN, 1}, {0, 1}, {MAX - 1, MAX}, {MIN, MIN + 1}, {-1000000, 1000000}};
        for (int[] of : taken) {
            Check.taken(of[0] + " and " + of[1], () -> riseOrNone(of[0], of[1]));
        }
        Check.due("the bounds of the trace", millions(-1, 1).riseTime(0, 2, -1000000, 1000000), 1);
        Check.sentence(39, "low: any number");
        Check.due("far above all, from a value before", Scopes.holding(1, 2).riseTime(0, 0, 1, 2), 1);
        Check.nothingThere("just below all", () -> Scopes.holding(1, 2).riseTime(0, 0, 0, 2));
        Check.nothingThere("the least", () -> Scopes.holding(1, 2).riseTime(0, 0, MIN, 2));
        Check.nothingThere("the greatest but one", () -> Scopes.holding(1, 2).riseTime(0, 0, MAX - 1, MAX));
        Check.sentence(39, NO_SOURCE + ", or high is not greater than low");
        int[][] refused = {{0, 0}, {1, 0}, {MAX, MIN}, {MAX, -2}, {1, MIN}, {MAX, MAX}, {MIN, MIN}, {MAX, MAX - 1}};
        for (Situation at : Situation.values()) {
            for (int[] of : refused) {
                String call = "riseTime by " + of[0] + " and " + of[1];
                if (at.records == 0) {
                    Refusals.outside(call, at, scope -> scope.riseTime(0, 0, of[0], of[1]));
                } else {
                    Refusals.illegal(call, at, scope -> scope.riseTime(0, 0, of[0], of[1]));
                }
            }
        }
    }

    /** A call that is not refused by its bounds, whether it finds a value or not. */
    private static void riseOrNone(int low, int high) {
        try {
            millions(1, -1, 1).riseTime(0, 2, low, high);
        } catch (java.util.NoSuchElementException e) {
            return;
        }
    }

    private static void riseTimeNone() {
        Check.sentence(39, "Throws NoSuchElementException if there is no such value");
        Check.nothingThere("a record of one", () -> Scopes.holding(5).riseTime(0, 0, 1, 5));
        Check.nothingThere("nothing as low", () -> Scopes.holding(2, 5).riseTime(0, 0, 1, 5));
        Check.nothingThere("nothing as high", () -> Scopes.holding(1, 4).riseTime(0, 0, 1, 5));
        Check.nothingThere("high before low", () -> Scopes.holding(5, 1).riseTime(0, 0, 1, 5));
        Check.nothingThere("high before low, and between behind it", () -> Scopes.holding(5, 1, 4).riseTime(0, 0, 1, 5));
        Triggerwright scope = longest(1, 4);
        Check.nothingThere("nothing as high in 49 samples", () -> scope.riseTime(0, 0, 1, 5));
        Check.nothingThere("nothing as low in 49 samples", () -> scope.riseTime(0, 0, 0, 4));
        Check.due("a rise in 49 samples", scope.riseTime(0, 0, 1, 4), 1);
        scope.disarm();
        scope.setLengths(0, 15);
        scope.arm();
        scope.push(1, 0, 1);
        scope.push(1, 1, 16);
        Check.nothingThere("nothing as high in 16 samples, behind 49", () -> scope.riseTime(0, 0, 1, 4));
        for (Situation at : Situation.values()) {
            for (int record = 0; record < at.records; record++) {
                int r = record;
                Refusals.nothingThere("riseTime of " + r, at, of -> of.riseTime(r, 0, 126, 127));
            }
        }
        Check.sentence(39, NO_TRACE);
        Check.badState("that comes first", () -> Scopes.holding(5).riseTime(0, 2, 1, 5));
    }
}
