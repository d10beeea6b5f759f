import java.util.Arrays;
import java.util.NoSuchElementException;

/** The core of an oscilloscope with two channels. */
public final class Triggerwright {

    private static final int LEAST_VALUE = -128;
    private static final int GREATEST_VALUE = 127;
    private static final int CHANNELS = 2;
    private static final int MOST_EQUAL = 50;
    private static final int MOST_STEP = 50;
    private static final int MOST_HYSTERESIS = 100;
    private static final int MOST_WIDTH = 100;
    private static final int MOST_SPAN = 100;
    private static final int MOST_PRE = 16;
    private static final int MOST_POST = 32;
    private static final int MOST_LENGTH = MOST_PRE + 1 + MOST_POST;
    private static final int MOST_HOLDOFF = 1000;
    private static final int MOST_RECORDS = 8;
    private static final int MOST_GROUP = 16;
    private static final int MOST_PARTS = 16;
    private static final int MOST_CONSTANT = 1000;
    private static final int LAST_APPLIED = 3;
    private static final int LAST_COMBINED = 4;
    private static final int MOST_RESULT = 1000000;
    private static final int TRACE = 2;
    private static final int OFFENCE_RECORD = 100;
    private static final int NONE = -1;

    private final History history = new History();
    private final Memory memory = new Memory();
    private final Mask mask = new Mask();
    private final Expression expression = new Expression();
    /** The values of the source that is being measured; made once, as measurements are many. */
    private final int[] row = new int[MOST_LENGTH];
    private Condition condition = new Edge(0, 0, 0, true);
    private int firings;

    /** Creates a scope that is not armed. */
    public Triggerwright() {
    }

    // ---- conditions

    /** Sets an edge condition. */
    public void setEdge(int channel, int level, int hysteresis, boolean rising) throws IllegalArgumentException {
        checkChannel(channel);
        checkValue(level);
        checkRange(hysteresis, 0, MOST_HYSTERESIS);
        condition = new Edge(channel, level, hysteresis, rising);
    }

    /** Sets a width condition. */
    public void setWidth(int channel, int level, int least, int most, boolean high) throws IllegalArgumentException {
        checkChannel(channel);
        checkValue(level);
        checkRange(least, 1, MOST_WIDTH);
        checkRange(most, least, MOST_WIDTH);
        condition = new Width(channel, level, least, most, high);
    }

    /** Sets a runt condition. */
    public void setRunt(int channel, int low, int high) throws IllegalArgumentException {
        checkChannel(channel);
        checkValue(low);
        checkRange(high, low, GREATEST_VALUE);
        condition = new Runt(channel, low, high);
    }

    /** Sets a sequence condition. */
    public void setSequence(int first, int second, int span) throws IllegalArgumentException {
        checkValue(first);
        checkValue(second);
        checkRange(span, 0, MOST_SPAN);
        condition = new Sequence(first, second, span);
    }

    // ---- memory

    /** Sets the lengths of records. */
    public void setLengths(int pre, int post) throws IllegalArgumentException, IllegalStateException {
        checkRange(pre, 0, MOST_PRE);
        checkRange(post, 0, MOST_POST);
        if (memory.armed) {
            throw new IllegalStateException("the scope is armed");
        }
        memory.pre = pre;
        memory.post = post;
    }

    /** Sets the holdoff and returns the one before. */
    public int setHoldoff(int samples) throws IllegalArgumentException {
        checkRange(samples, 0, MOST_HOLDOFF);
        int before = memory.holdoff;
        memory.holdoff = samples;
        return before;
    }

    /** Arms the scope and returns how many complete records are dropped. */
    public int arm() {
        int dropped = memory.complete;
        memory.beginAnew();
        return dropped;
    }

    /** Disarms the scope and returns whether it was armed. */
    public boolean disarm() {
        boolean before = memory.armed;
        memory.armed = false;
        memory.caught = null;
        return before;
    }

    /** Returns whether the scope is armed. */
    public boolean isArmed() {
        return memory.armed;
    }

    /** Returns whether a record is being caught. */
    public boolean isCatching() {
        return memory.caught != null;
    }

    // ---- samples

    /** Takes in some equal samples and returns how many records become complete. */
    public int push(int first, int second, int count) throws IllegalArgumentException {
        checkValue(first);
        checkValue(second);
        checkRange(count, 1, MOST_EQUAL);
        return takeRamp(first, second, 0, 0, count);
    }

    /** Takes in some samples that change evenly and returns how many records become complete. */
    public int ramp(int first, int second, int firstStep, int secondStep, int count)
            throws IllegalArgumentException {
        checkValue(first);
        checkValue(second);
        checkRange(firstStep, -MOST_STEP, MOST_STEP);
        checkRange(secondStep, -MOST_STEP, MOST_STEP);
        checkRange(count, 1, MOST_EQUAL);
        return takeRamp(first, second, firstStep, secondStep, count);
    }

    /** Returns how many samples came in. */
    public int samples() {
        return history.count;
    }

    /** Returns at how many samples the conditions have fired so far. */
    public int fired() {
        return firings;
    }

    private int takeRamp(int first, int second, int firstStep, int secondStep, int count) {
        int completed = 0;
        for (int k = 0; k < count; k++) {
            int value0 = kept(first + k * firstStep, LEAST_VALUE, GREATEST_VALUE);
            int value1 = kept(second + k * secondStep, LEAST_VALUE, GREATEST_VALUE);
            if (takeSample(value0, value1)) {
                completed++;
            }
        }
        return completed;
    }

    /** Takes in one sample and tells whether a record becomes complete with it. */
    private boolean takeSample(int first, int second) {
        boolean fires = condition.firesAt(history.count, first, second);
        if (fires) {
            firings++;
        }
        boolean completed = memory.takeSample(fires, first, second, history);
        if (completed) {
            memory.judgeLatest(mask);
        }
        // The history holds what came before a sample, so the sample joins it last.
        history.add(first, second);
        return completed;
    }

    // ---- records

    /** Returns the number of complete records. */
    public int records() {
        return memory.complete;
    }

    /** Returns the number of the trigger sample of a record. */
    public int trigger(int record) throws IndexOutOfBoundsException {
        checkRecord(record);
        return memory.captures[record].triggerSample;
    }

    /** Returns the number of samples of a record. */
    public int length(int record) throws IndexOutOfBoundsException {
        checkRecord(record);
        return memory.captures[record].taken;
    }

    /** Returns a value of a record. */
    public int value(int record, int channel, int position)
            throws IndexOutOfBoundsException, IllegalArgumentException {
        checkRecord(record);
        checkPosition(record, position);
        checkChannel(channel);
        return memory.captures[record].at(channel, position);
    }

    /** Returns the least value of a group of a record. */
    public int low(int record, int channel, int size, int group)
            throws IllegalArgumentException, IndexOutOfBoundsException {
        checkGroup(record, channel, size, group);
        Capture capture = memory.captures[record];
        int start = size * group;
        int end = groupEnd(capture, size, start);
        int result = capture.at(channel, start);
        for (int position = start; position < end; position++) {
            result = Math.min(result, capture.at(channel, position));
        }
        return result;
    }

    /** Returns the greatest value of a group of a record. */
    public int high(int record, int channel, int size, int group)
            throws IllegalArgumentException, IndexOutOfBoundsException {
        checkGroup(record, channel, size, group);
        Capture capture = memory.captures[record];
        int start = size * group;
        int end = groupEnd(capture, size, start);
        int result = capture.at(channel, start);
        for (int position = start; position < end; position++) {
            result = Math.max(result, capture.at(channel, position));
        }
        return result;
    }

    /** Returns the average value of a group of a record, rounded down. */
    public int mean(int record, int channel, int size, int group)
            throws IllegalArgumentException, IndexOutOfBoundsException {
        checkGroup(record, channel, size, group);
        Capture capture = memory.captures[record];
        int start = size * group;
        int end = groupEnd(capture, size, start);
        int sum = 0;
        for (int position = start; position < end; position++) {
            sum += capture.at(channel, position);
        }
        // A group that is not refused has samples; the 1 shows that the divisor is never 0.
        return Math.floorDiv(sum, Math.max(1, end - start));
    }

    /** Counts at how many samples of a record the condition would fire if it looked at them alone. */
    public int rescan(int record) throws IndexOutOfBoundsException {
        checkRecord(record);
        Capture capture = memory.captures[record];
        Condition probe = condition.begunAnew();
        int count = 0;
        for (int position = 0; position < capture.taken; position++) {
            if (probe.firesAt(position, capture.at(0, position), capture.at(1, position))) {
                count++;
            }
        }
        return count;
    }

    /** Returns the position behind the last one of the group that starts at a position. */
    private static int groupEnd(Capture capture, int size, int start) {
        return Math.min(start + size, capture.taken);
    }

    // ---- the mask

    /** Sets the least and the greatest value for some positions. */
    public void setMask(int from, int to, int low, int high) throws IllegalArgumentException {
        checkRange(from, 0, MOST_LENGTH - 1);
        checkRange(to, from, MOST_LENGTH - 1);
        checkValue(low);
        checkRange(high, low, GREATEST_VALUE);
        mask.limit(from, to, low, high);
    }

    /** Removes all values from the mask. */
    public void clearMask() {
        // Limits that no value can offend stand for none.
        mask.limit(0, MOST_LENGTH - 1, LEAST_VALUE, GREATEST_VALUE);
    }

    /** Returns how many failures there were since the scope was armed. */
    public int failures() {
        return memory.failed;
    }

    /** Returns 100 times the record of the first offence since the scope was armed plus its position. */
    public int firstOffence() throws NoSuchElementException {
        if (memory.offence == NONE) {
            throw new NoSuchElementException("there was no offence");
        }
        return memory.offence;
    }

    // ---- the trace

    /** Puts a channel on the stack and returns the number of parts on it then. */
    public int putChannel(int channel) throws IllegalArgumentException, IllegalStateException {
        checkChannel(channel);
        checkRoom();
        return expression.add(Expression.CHANNEL, channel);
    }

    /** Puts a constant on the stack and returns the number of parts on it then. */
    public int putConstant(int value) throws IllegalArgumentException, IllegalStateException {
        checkRange(value, -MOST_CONSTANT, MOST_CONSTANT);
        checkRoom();
        return expression.add(Expression.CONSTANT, value);
    }

    /** Puts an operation with one operand on the stack and returns the number of parts on it then. */
    public int apply(int operation) throws IllegalArgumentException, IllegalStateException {
        checkRange(operation, 0, LAST_APPLIED);
        checkRoom();
        checkOperands(1);
        return expression.add(Expression.ONE_OPERAND, operation);
    }

    /** Puts an operation with two operands on the stack and returns the number of parts on it then. */
    public int combine(int operation) throws IllegalArgumentException, IllegalStateException {
        checkRange(operation, 0, LAST_COMBINED);
        checkRoom();
        checkOperands(2);
        return expression.add(Expression.TWO_OPERANDS, operation);
    }

    /** Empties the stack and returns how many parts the expression had. */
    public int clearTrace() {
        int before = expression.parts;
        expression.parts = 0;
        expression.height = 0;
        return before;
    }

    /** Returns a value of the trace of a record. */
    public int trace(int record, int position) throws IndexOutOfBoundsException, IllegalStateException {
        checkRecord(record);
        checkPosition(record, position);
        checkTrace(TRACE);
        fillRow(record, TRACE);
        return row[position];
    }

    // ---- measurements

    /** Returns the least value of a source in a record. */
    public int least(int record, int source)
            throws IndexOutOfBoundsException, IllegalArgumentException, IllegalStateException {
        checkRecord(record);
        checkSource(source);
        checkTrace(source);
        int count = fillRow(record, source);
        int result = row[0];
        for (int position = 1; position < count; position++) {
            result = Math.min(result, row[position]);
        }
        return result;
    }

    /** Returns the greatest value of a source in a record. */
    public int greatest(int record, int source)
            throws IndexOutOfBoundsException, IllegalArgumentException, IllegalStateException {
        checkRecord(record);
        checkSource(source);
        checkTrace(source);
        int count = fillRow(record, source);
        int result = row[0];
        for (int position = 1; position < count; position++) {
            result = Math.max(result, row[position]);
        }
        return result;
    }

    /** Returns the average value of a source in a record. */
    public double average(int record, int source)
            throws IndexOutOfBoundsException, IllegalArgumentException, IllegalStateException {
        checkRecord(record);
        checkSource(source);
        checkTrace(source);
        int count = fillRow(record, source);
        int sum = 0;
        for (int position = 0; position < count; position++) {
            sum += row[position];
        }
        // A record has its trigger sample at least; the 1 shows that the divisor is never 0.
        return (double) sum / (double) Math.max(1, count);
    }

    /** Counts the crossings of a source in a record. */
    public int crossings(int record, int source, int level)
            throws IndexOutOfBoundsException, IllegalArgumentException, IllegalStateException {
        checkRecord(record);
        checkSource(source);
        checkTrace(source);
        int count = fillRow(record, source);
        int found = 0;
        for (int position = 1; position < count; position++) {
            if (crossesAt(position, level)) {
                found++;
            }
        }
        return found;
    }

    /** Returns the period of a source in a record. */
    public double period(int record, int source, int level)
            throws IndexOutOfBoundsException, IllegalArgumentException, IllegalStateException,
            NoSuchElementException {
        checkRecord(record);
        checkSource(source);
        checkTrace(source);
        int count = fillRow(record, source);
        int found = 0;
        int first = 0;
        int last = 0;
        for (int position = 1; position < count; position++) {
            if (crossesAt(position, level)) {
                first = found == 0 ? position : first;
                last = position;
                found++;
            }
        }
        if (found < 2) {
            throw new NoSuchElementException("there are less than two crossings");
        }
        return (double) (last - first) / (double) (found - 1);
    }

    /** Returns how many samples a source takes to rise in a record. */
    public int riseTime(int record, int source, int low, int high)
            throws IndexOutOfBoundsException, IllegalArgumentException, IllegalStateException,
            NoSuchElementException {
        checkRecord(record);
        checkSource(source);
        if (high <= low) {
            throw new IllegalArgumentException("high is not greater than low");
        }
        checkTrace(source);
        int count = fillRow(record, source);
        int lastLow = NONE;
        for (int position = 0; position < count; position++) {
            if (row[position] >= high && lastLow != NONE) {
                return position - lastLow;
            }
            if (row[position] <= low) {
                lastLow = position;
            }
        }
        throw new NoSuchElementException("there is no such value");
    }

    private boolean crossesAt(int position, int level) {
        return row[position] > level && row[position - 1] <= level;
    }

    /** Fills the row with a source of a record and returns how many values it has. */
    private int fillRow(int record, int source) {
        Capture capture = memory.captures[record];
        if (source == TRACE) {
            expression.fill(row, capture);
        } else {
            for (int position = 0; position < capture.taken; position++) {
                row[position] = capture.at(source, position);
            }
        }
        return capture.taken;
    }

    // ---- what is refused

    private static void checkRange(int number, int least, int greatest) {
        if (number < least || number > greatest) {
            throw new IllegalArgumentException("a parameter is out of range");
        }
    }

    private static void checkChannel(int channel) {
        checkRange(channel, 0, CHANNELS - 1);
    }

    private static void checkValue(int value) {
        checkRange(value, LEAST_VALUE, GREATEST_VALUE);
    }

    private static void checkSource(int source) {
        checkRange(source, 0, TRACE);
    }

    private void checkRecord(int record) {
        if (record < 0 || record >= memory.complete) {
            throw new IndexOutOfBoundsException("there is no such record");
        }
    }

    private void checkPosition(int record, long position) {
        if (position < 0 || position >= memory.captures[record].taken) {
            throw new IndexOutOfBoundsException("there is no such position");
        }
    }

    private void checkGroup(int record, int channel, int size, int group) {
        checkChannel(channel);
        checkRange(size, 1, MOST_GROUP);
        checkRecord(record);
        // As an int the product could wrap round to a position that there is.
        checkPosition(record, (long) size * group);
    }

    private void checkRoom() {
        if (expression.parts >= MOST_PARTS) {
            throw new IllegalStateException("the expression has 16 parts");
        }
    }

    private void checkOperands(int needed) {
        if (expression.height < needed) {
            throw new IllegalStateException("there are too few parts on the stack");
        }
    }

    private void checkTrace(int source) {
        if (source == TRACE && expression.height != 1) {
            throw new IllegalStateException("the stack has not just one part");
        }
    }

    private static int kept(long number, int least, int greatest) {
        return (int) Math.max(least, Math.min(greatest, number));
    }

    // ---- classes inside

    /** What looks at the samples, one after the other, and fires at some. */
    private abstract static class Condition {

        /** Looks at the next sample and tells whether the condition fires at it. */
        abstract boolean firesAt(int number, int first, int second);

        /** Returns a condition with the same settings that has not looked at any sample. */
        abstract Condition begunAnew();
    }

    private static final class Edge extends Condition {
        private final int channel;
        private final int level;
        private final int hysteresis;
        private final boolean rising;
        private boolean ready;

        Edge(int channel, int level, int hysteresis, boolean rising) {
            this.channel = channel;
            this.level = level;
            this.hysteresis = hysteresis;
            this.rising = rising;
        }

        boolean firesAt(int number, int first, int second) {
            int value = channel == 0 ? first : second;
            boolean passed = rising ? value > level : value < level;
            boolean fires = ready && passed;
            if (fires) {
                ready = false;
            } else if (rising ? value <= level - hysteresis : value >= level + hysteresis) {
                ready = true;
            }
            return fires;
        }

        Condition begunAnew() {
            return new Edge(channel, level, hysteresis, rising);
        }
    }

    private static final class Width extends Condition {
        private final int channel;
        private final int level;
        private final int least;
        private final int most;
        private final boolean high;
        /** Whether a sample outside of pulses was looked at: from then on each pulse is seen. */
        private boolean sawOutside;
        private int width;

        Width(int channel, int level, int least, int most, boolean high) {
            this.channel = channel;
            this.level = level;
            this.least = least;
            this.most = most;
            this.high = high;
        }

        boolean firesAt(int number, int first, int second) {
            int value = channel == 0 ? first : second;
            boolean inside = value > level == high;
            if (inside) {
                width++;
                return false;
            }
            // Between two samples outside the width is 0, which is less than any least one.
            boolean fires = sawOutside && width >= least && width <= most;
            sawOutside = true;
            width = 0;
            return fires;
        }

        Condition begunAnew() {
            return new Width(channel, level, least, most, high);
        }
    }

    private static final class Runt extends Condition {
        private final int channel;
        private final int low;
        private final int high;
        /** Whether a sample outside of excursions was looked at: from then on each one is seen. */
        private boolean sawOutside;
        private boolean inside;
        private boolean tooHigh;

        Runt(int channel, int low, int high) {
            this.channel = channel;
            this.low = low;
            this.high = high;
        }

        boolean firesAt(int number, int first, int second) {
            int value = channel == 0 ? first : second;
            if (value > low) {
                inside = true;
                tooHigh = tooHigh || value > high;
                return false;
            }
            boolean fires = sawOutside && inside && !tooHigh;
            sawOutside = true;
            inside = false;
            tooHigh = false;
            return fires;
        }

        Condition begunAnew() {
            return new Runt(channel, low, high);
        }
    }

    private static final class Sequence extends Condition {
        private final int firstLevel;
        private final int secondLevel;
        private final int span;
        private boolean looked;
        private int firstBefore;
        private int secondBefore;
        private boolean remembers;
        private int remembered;

        Sequence(int firstLevel, int secondLevel, int span) {
            this.firstLevel = firstLevel;
            this.secondLevel = secondLevel;
            this.span = span;
        }

        boolean firesAt(int number, int first, int second) {
            boolean firstRises = looked && firstBefore <= firstLevel && first > firstLevel;
            boolean secondRises = looked && secondBefore <= secondLevel && second > secondLevel;
            looked = true;
            firstBefore = first;
            secondBefore = second;
            if (firstRises) {
                remembers = true;
                remembered = number;
            }
            boolean fires = secondRises && remembers && number - remembered <= span;
            if (fires) {
                remembers = false;
            }
            return fires;
        }

        Condition begunAnew() {
            return new Sequence(firstLevel, secondLevel, span);
        }
    }

    /** The latest samples, as many as a record can have before its trigger. */
    private static final class History {
        /** MOST_PRE is a power of two, so that this makes a place of any number. */
        private static final int PLACES = MOST_PRE - 1;

        private final int[][] values = new int[CHANNELS][MOST_PRE];
        private int count;

        void add(int first, int second) {
            values[0][count & PLACES] = first;
            values[1][count & PLACES] = second;
            count++;
        }

        /** Returns the value of a channel some samples back; 1 is the latest one. */
        int back(int channel, int distance) {
            return values[channel == 0 ? 0 : 1][(count - distance) & PLACES];
        }
    }

    /** A record, complete or being caught. */
    private static final class Capture {
        private final int[][] values = new int[CHANNELS][MOST_LENGTH];
        private int triggerSample;
        private int wanted;
        private int taken;

        void begin(int number, int samplesWanted) {
            triggerSample = number;
            wanted = samplesWanted;
            taken = 0;
        }

        void add(int first, int second) {
            if (taken < MOST_LENGTH) {
                values[0][taken] = first;
                values[1][taken] = second;
                taken++;
            }
        }

        boolean isFull() {
            return taken >= wanted;
        }

        int at(int channel, int position) {
            return values[channel == 0 ? 0 : 1][position];
        }
    }

    /** The segmented memory with all that decides what it catches. */
    private static final class Memory {
        private final Capture[] captures = new Capture[MOST_RECORDS];
        private int complete;
        /** The record that is being caught, or null. */
        private Capture caught;
        private boolean armed;
        private int pre = 4;
        private int post = 8;
        private int holdoff;
        private boolean triggered;
        private int latestTrigger;
        private int failed;
        private int offence = NONE;

        Memory() {
            for (int record = 0; record < MOST_RECORDS; record++) {
                captures[record] = new Capture();
            }
        }

        void beginAnew() {
            armed = true;
            caught = null;
            complete = 0;
            triggered = false;
            failed = 0;
            offence = NONE;
        }

        /** Takes in one sample and tells whether a record becomes complete with it. */
        boolean takeSample(boolean fires, int first, int second, History history) {
            if (fires && mayTrigger(history.count)) {
                startCatching(history);
            }
            if (caught == null) {
                return false;
            }
            caught.add(first, second);
            if (!caught.isFull()) {
                return false;
            }
            caught = null;
            complete++;
            if (complete >= MOST_RECORDS) {
                armed = false;
            }
            return true;
        }

        private boolean mayTrigger(int number) {
            boolean heldOff = triggered && number - latestTrigger <= holdoff;
            return armed && caught == null && complete < MOST_RECORDS && number >= pre && !heldOff;
        }

        private void startCatching(History history) {
            caught = captures[complete];
            caught.begin(history.count, pre + 1 + post);
            for (int distance = pre; distance >= 1; distance--) {
                caught.add(history.back(0, distance), history.back(1, distance));
            }
            triggered = true;
            latestTrigger = history.count;
        }

        /** Compares the record that became complete last with the mask. */
        void judgeLatest(Mask mask) {
            int latest = complete - 1;
            if (latest < 0 || latest >= MOST_RECORDS) {
                return;
            }
            int position = mask.lowestOffence(captures[latest]);
            if (position == NONE) {
                return;
            }
            failed++;
            if (offence == NONE) {
                offence = OFFENCE_RECORD * latest + position;
            }
        }
    }

    private static final class Mask {
        private final int[] floor = new int[MOST_LENGTH];
        private final int[] ceiling = new int[MOST_LENGTH];

        Mask() {
            Arrays.fill(floor, LEAST_VALUE);
            Arrays.fill(ceiling, GREATEST_VALUE);
        }

        void limit(int from, int to, int lowest, int highest) {
            for (int position = from; position <= to; position++) {
                floor[position] = lowest;
                ceiling[position] = highest;
            }
        }

        /** Returns the lowest position of a record with an offence, or NONE. */
        int lowestOffence(Capture capture) {
            for (int position = 0; position < capture.taken; position++) {
                int value = capture.at(0, position);
                if (value < floor[position] || value > ceiling[position]) {
                    return position;
                }
            }
            return NONE;
        }
    }

    /** The parts of the trace in the order in which they came: each takes its operands off the stack. */
    private static final class Expression {
        private static final int CHANNEL = 0;
        private static final int CONSTANT = 1;
        private static final int ONE_OPERAND = 2;
        private static final int TWO_OPERANDS = 3;

        private final int[] kinds = new int[MOST_PARTS];
        /** The channel, the constant or the operation of each part. */
        private final int[] details = new int[MOST_PARTS];
        /** What a part that looks back carries from sample to sample. */
        private final int[] carried = new int[MOST_PARTS];
        private final int[] stack = new int[MOST_PARTS];
        private int parts;
        private int height;

        int add(int kind, int detail) {
            if (parts < MOST_PARTS) {
                kinds[parts] = kind;
                details[parts] = detail;
                parts++;
                int operands = kind == TWO_OPERANDS ? 2 : kind == ONE_OPERAND ? 1 : 0;
                height += 1 - operands;
            }
            return height;
        }

        /** Fills a row with the trace of a record. */
        void fill(int[] target, Capture capture) {
            Arrays.fill(carried, 0);
            for (int position = 0; position < capture.taken; position++) {
                target[position] = compute(capture, position);
            }
        }

        private int compute(Capture capture, int position) {
            int filled = 0;
            for (int part = 0; part < parts; part++) {
                if (kinds[part] == TWO_OPERANDS && filled >= 2) {
                    filled--;
                    stack[filled - 1] = ofTwo(details[part], stack[filled - 1], stack[filled]);
                } else if (kinds[part] == ONE_OPERAND && filled >= 1) {
                    stack[filled - 1] = ofOne(part, stack[filled - 1], position);
                } else if (filled < MOST_PARTS) {
                    stack[filled] = kinds[part] == CHANNEL ? capture.at(details[part], position) : details[part];
                    filled++;
                }
            }
            return stack[0];
        }

        private int ofOne(int part, int operand, int position) {
            switch (details[part]) {
                case 0:
                    return -operand;
                case 1:
                    return Math.abs(operand);
                case 2:
                    int before = position == 0 ? operand : carried[part];
                    carried[part] = operand;
                    return keptResult(operand - before);
                default:
                    carried[part] = keptResult(carried[part] + operand);
                    return carried[part];
            }
        }

        private static int ofTwo(int operation, int first, int second) {
            switch (operation) {
                case 0:
                    return keptResult(first + second);
                case 1:
                    return keptResult(first - second);
                case 2:
                    return keptResult((long) first * second);
                case 3:
                    return Math.min(first, second);
                default:
                    return Math.max(first, second);
            }
        }

        private static int keptResult(long number) {
            return kept(number, -MOST_RESULT, MOST_RESULT);
        }
    }
}
