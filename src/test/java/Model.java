import java.util.ArrayList;
import java.util.List;
import java.util.NoSuchElementException;

/**
 * The document once more, written as plainly as can be: every sample is kept, and every answer
 * is worked out anew from the samples by the sentences of the document. ModelTest compares it
 * with the program.
 */
public final class Model {
    private record Sample(int first, int second) {
        int of(int channel) {
            return channel == 0 ? first : second;
        }
    }

    private record Caught(int trigger, int start, int end) {
        int size() {
            return end - start;
        }
    }

    private record Limits(int least, int greatest) {
    }

    /** A condition by its settings alone. */
    private record Setting(String kind, int a, int b, int c, int d, boolean flag) {
    }

    /** A part of the expression; its operands are other parts. */
    private record Part(String kind, int detail, Part one, Part two) {
    }

    private final List<Sample> samples = new ArrayList<>();
    private Setting setting = new Setting("edge", 0, 0, 0, 0, true);
    private int setAt = 0;
    private List<Boolean> firedSinceSet = new ArrayList<>();
    private int fired = 0;
    private boolean armed = false;
    private int pre = 4;
    private int post = 8;
    private int holdoff = 0;
    private final List<Integer> triggers = new ArrayList<>();
    private boolean catching = false;
    private final List<Caught> records = new ArrayList<>();
    private final Limits[] mask = new Limits[49];
    private final List<Integer> offences = new ArrayList<>();
    private int failures = 0;
    private final List<Part> stack = new ArrayList<>();
    private int parts = 0;

    private static void legal(boolean allowed) {
        if (!allowed) {
            throw new IllegalArgumentException();
        }
    }

    private static void inState(boolean allowed) {
        if (!allowed) {
            throw new IllegalStateException();
        }
    }

    private static void inside(boolean allowed) {
        if (!allowed) {
            throw new IndexOutOfBoundsException();
        }
    }

    private static boolean within(int number, int least, int greatest) {
        return least <= number && number <= greatest;
    }

    private static boolean isValue(int number) {
        return within(number, -128, 127);
    }

    private void set(Setting next) {
        setting = next;
        setAt = samples.size();
        firedSinceSet = new ArrayList<>();
    }

    public void setEdge(int channel, int level, int hysteresis, boolean rising) {
        legal(within(channel, 0, 1) && isValue(level) && within(hysteresis, 0, 100));
        set(new Setting("edge", channel, level, hysteresis, 0, rising));
    }

    public void setWidth(int channel, int level, int least, int most, boolean high) {
        legal(within(channel, 0, 1) && isValue(level) && within(least, 1, 100) && within(most, least, 100));
        set(new Setting("width", channel, level, least, most, high));
    }

    public void setRunt(int channel, int low, int high) {
        legal(within(channel, 0, 1) && isValue(low) && within(high, low, 127));
        set(new Setting("runt", channel, low, high, 0, false));
    }

    public void setSequence(int first, int second, int span) {
        legal(isValue(first) && isValue(second) && within(span, 0, 100));
        set(new Setting("sequence", first, second, span, 0, false));
    }

    public void setLengths(int before, int behind) {
        legal(within(before, 0, 16) && within(behind, 0, 32));
        inState(!armed);
        pre = before;
        post = behind;
    }

    public int setHoldoff(int number) {
        legal(within(number, 0, 1000));
        int before = holdoff;
        holdoff = number;
        return before;
    }

    public int arm() {
        int dropped = records.size();
        armed = true;
        catching = false;
        records.clear();
        triggers.clear();
        offences.clear();
        failures = 0;
        return dropped;
    }

    public boolean disarm() {
        boolean was = armed;
        armed = false;
        catching = false;
        return was;
    }

    public boolean isArmed() {
        return armed;
    }

    public boolean isCatching() {
        return catching;
    }

    public int push(int first, int second, int count) {
        legal(isValue(first) && isValue(second) && within(count, 1, 50));
        int before = records.size();
        for (int k = 0; k < count; k++) {
            take(new Sample(first, second));
        }
        return records.size() - before;
    }

    public int ramp(int first, int second, int firstStep, int secondStep, int count) {
        legal(isValue(first) && isValue(second) && within(firstStep, -50, 50) && within(secondStep, -50, 50)
            && within(count, 1, 50));
        int before = records.size();
        for (int k = 0; k < count; k++) {
            int one = Math.max(-128, Math.min(127, first + k * firstStep));
            int two = Math.max(-128, Math.min(127, second + k * secondStep));
            take(new Sample(one, two));
        }
        return records.size() - before;
    }

    public int samples() {
        return samples.size();
    }

    public int fired() {
        return fired;
    }

    private void take(Sample sample) {
        int number = samples.size();
        samples.add(sample);
        boolean fires = fires(setting, samples, setAt, number, firedSinceSet);
        firedSinceSet.add(fires);
        fired += fires ? 1 : 0;
        if (fires && armed && !catching && number >= pre
            && (triggers.isEmpty() || number - triggers.get(triggers.size() - 1) > holdoff)) {
            triggers.add(number);
            catching = true;
        }
        if (catching && number == triggers.get(triggers.size() - 1) + post) {
            complete();
        }
    }

    private void complete() {
        int trigger = triggers.get(triggers.size() - 1);
        Caught record = new Caught(trigger, trigger - pre, trigger + post + 1);
        records.add(record);
        catching = false;
        if (records.size() == 8) {
            armed = false;
        }
        boolean failed = false;
        for (int k = 0; k < record.size(); k++) {
            int value = samples.get(record.start() + k).first();
            if (mask[k] != null && (value < mask[k].least() || value > mask[k].greatest())) {
                offences.add(100 * (records.size() - 1) + k);
                failed = true;
            }
        }
        failures += failed ? 1 : 0;
    }

    /**
     * Whether a condition that has looked at the samples from a start on fires at sample n;
     * the list tells where it fired before.
     */
    private static boolean fires(Setting by, List<Sample> all, int start, int n, List<Boolean> before) {
        switch (by.kind()) {
            case "edge":
                return edgeFires(by, all, start, n);
            case "width":
                return widthFires(by, all, start, n);
            case "runt":
                return runtFires(by, all, start, n);
            default:
                return sequenceFires(by, all, start, n, before);
        }
    }

    private static boolean edgePasses(Setting by, int value) {
        return by.flag() ? value > by.b() : value < by.b();
    }

    /** It fires if it got ready at a sample before, and has not passed the level between them. */
    private static boolean edgeFires(Setting by, List<Sample> all, int start, int n) {
        if (!edgePasses(by, all.get(n).of(by.a()))) {
            return false;
        }
        for (int k = n - 1; k >= start; k--) {
            int value = all.get(k).of(by.a());
            if (edgePasses(by, value)) {
                return false;
            }
            if (by.flag() ? value <= by.b() - by.c() : value >= by.b() + by.c()) {
                return true;
            }
        }
        return false;
    }

    private static boolean widthFires(Setting by, List<Sample> all, int start, int n) {
        if ((all.get(n).of(by.a()) > by.b()) == by.flag()) {
            return false;
        }
        int k = n - 1;
        while (k >= start && (all.get(k).of(by.a()) > by.b()) == by.flag()) {
            k--;
        }
        return k >= start && within(n - 1 - k, by.c(), by.d());
    }

    private static boolean runtFires(Setting by, List<Sample> all, int start, int n) {
        if (all.get(n).of(by.a()) > by.b()) {
            return false;
        }
        int k = n - 1;
        int greatest = -1000;
        while (k >= start && all.get(k).of(by.a()) > by.b()) {
            greatest = Math.max(greatest, all.get(k).of(by.a()));
            k--;
        }
        return k >= start && n - 1 - k > 0 && greatest <= by.c();
    }

    private static boolean rises(List<Sample> all, int start, int n, int channel, int level) {
        return n > start && all.get(n - 1).of(channel) <= level && all.get(n).of(channel) > level;
    }

    private static boolean sequenceFires(Setting by, List<Sample> all, int start, int n, List<Boolean> before) {
        if (!rises(all, start, n, 1, by.b())) {
            return false;
        }
        int k = n;
        while (k > start && !rises(all, start, k, 0, by.a())) {
            k--;
        }
        if (!rises(all, start, k, 0, by.a()) || n - k > by.c()) {
            return false;
        }
        return !before.subList(k - start, n - start).contains(true);
    }

    public int records() {
        return records.size();
    }

    private Caught caught(int record) {
        inside(within(record, 0, records.size() - 1));
        return records.get(record);
    }

    public int trigger(int record) {
        return caught(record).trigger();
    }

    public int length(int record) {
        return caught(record).size();
    }

    public int value(int record, int channel, int position) {
        Caught of = caught(record);
        inside(within(position, 0, of.size() - 1));
        legal(within(channel, 0, 1));
        return samples.get(of.start() + position).of(channel);
    }

    private List<Integer> group(int record, int channel, int size, int group) {
        legal(within(channel, 0, 1) && within(size, 1, 16));
        Caught of = caught(record);
        List<Integer> values = new ArrayList<>();
        for (int k = 0; k < of.size(); k++) {
            if (k / size == group) {
                values.add(samples.get(of.start() + k).of(channel));
            }
        }
        inside(!values.isEmpty());
        return values;
    }

    public int low(int record, int channel, int size, int group) {
        return java.util.Collections.min(group(record, channel, size, group));
    }

    public int high(int record, int channel, int size, int group) {
        return java.util.Collections.max(group(record, channel, size, group));
    }

    public int mean(int record, int channel, int size, int group) {
        List<Integer> values = group(record, channel, size, group);
        int sum = 0;
        for (int value : values) {
            sum += value;
        }
        int quotient = sum / values.size();
        return quotient * values.size() > sum ? quotient - 1 : quotient;
    }

    public int rescan(int record) {
        Caught of = caught(record);
        List<Boolean> before = new ArrayList<>();
        int count = 0;
        for (int n = of.start(); n < of.end(); n++) {
            boolean fires = fires(setting, samples, of.start(), n, before);
            before.add(fires);
            count += fires ? 1 : 0;
        }
        return count;
    }

    public void setMask(int from, int to, int low, int high) {
        legal(within(from, 0, 48) && within(to, from, 48) && isValue(low) && within(high, low, 127));
        for (int k = from; k <= to; k++) {
            mask[k] = new Limits(low, high);
        }
    }

    public void clearMask() {
        java.util.Arrays.fill(mask, null);
    }

    public int failures() {
        return failures;
    }

    public int firstOffence() {
        if (offences.isEmpty()) {
            throw new NoSuchElementException();
        }
        return offences.get(0);
    }

    private int put(String kind, int detail, int operands) {
        inState(parts < 16 && stack.size() >= operands);
        Part two = operands == 2 ? stack.remove(stack.size() - 1) : null;
        Part one = operands >= 1 ? stack.remove(stack.size() - 1) : null;
        stack.add(new Part(kind, detail, one, two));
        parts++;
        return stack.size();
    }

    public int putChannel(int channel) {
        legal(within(channel, 0, 1));
        return put("channel", channel, 0);
    }

    public int putConstant(int value) {
        legal(within(value, -1000, 1000));
        return put("constant", value, 0);
    }

    public int apply(int operation) {
        legal(within(operation, 0, 3));
        return put("apply", operation, 1);
    }

    public int combine(int operation) {
        legal(within(operation, 0, 4));
        return put("combine", operation, 2);
    }

    public int clearTrace() {
        int had = parts;
        stack.clear();
        parts = 0;
        return had;
    }

    private static long kept(long number) {
        return number > 1000000 ? 1000000 : number < -1000000 ? -1000000 : number;
    }

    /** All values of a part over a record, in order. */
    private List<Long> told(Part part, Caught of) {
        List<Long> values = new ArrayList<>();
        List<Long> ones = part.one() == null ? null : told(part.one(), of);
        List<Long> twos = part.two() == null ? null : told(part.two(), of);
        for (int k = 0; k < of.size(); k++) {
            switch (part.kind()) {
                case "channel":
                    values.add((long) samples.get(of.start() + k).of(part.detail()));
                    break;
                case "constant":
                    values.add((long) part.detail());
                    break;
                case "apply":
                    values.add(kept(applied(part.detail(), ones, values, k)));
                    break;
                default:
                    values.add(kept(combined(part.detail(), ones.get(k), twos.get(k))));
            }
        }
        return values;
    }

    private static long applied(int operation, List<Long> operand, List<Long> soFar, int k) {
        switch (operation) {
            case 0:
                return -operand.get(k);
            case 1:
                return operand.get(k) < 0 ? -operand.get(k) : operand.get(k);
            case 2:
                return k == 0 ? 0 : operand.get(k) - operand.get(k - 1);
            default:
                return (k == 0 ? 0 : soFar.get(k - 1)) + operand.get(k);
        }
    }

    private static long combined(int operation, long first, long second) {
        switch (operation) {
            case 0:
                return first + second;
            case 1:
                return first - second;
            case 2:
                return first * second;
            case 3:
                return first < second ? first : second;
            default:
                return first > second ? first : second;
        }
    }

    public int trace(int record, int position) {
        Caught of = caught(record);
        inside(within(position, 0, of.size() - 1));
        inState(stack.size() == 1);
        return told(stack.get(0), of).get(position).intValue();
    }

    private List<Long> source(int record, int source, boolean moreIsLegal) {
        Caught of = caught(record);
        legal(within(source, 0, 2) && moreIsLegal);
        inState(source != 2 || stack.size() == 1);
        return told(source == 2 ? stack.get(0) : new Part("channel", source, null, null), of);
    }

    public int least(int record, int source) {
        return java.util.Collections.min(source(record, source, true)).intValue();
    }

    public int greatest(int record, int source) {
        return java.util.Collections.max(source(record, source, true)).intValue();
    }

    public double average(int record, int source) {
        List<Long> values = source(record, source, true);
        long sum = 0;
        for (long value : values) {
            sum += value;
        }
        return (double) sum / (double) values.size();
    }

    private List<Integer> crossed(int record, int source, int level) {
        List<Long> values = source(record, source, true);
        List<Integer> positions = new ArrayList<>();
        for (int k = 1; k < values.size(); k++) {
            if (values.get(k) > level && values.get(k - 1) <= level) {
                positions.add(k);
            }
        }
        return positions;
    }

    public int crossings(int record, int source, int level) {
        return crossed(record, source, level).size();
    }

    public double period(int record, int source, int level) {
        List<Integer> positions = crossed(record, source, level);
        if (positions.size() < 2) {
            throw new NoSuchElementException();
        }
        return (double) (positions.get(positions.size() - 1) - positions.get(0)) / (double) (positions.size() - 1);
    }

    public int riseTime(int record, int source, int low, int high) {
        List<Long> values = source(record, source, high > low);
        for (int k = 0; k < values.size(); k++) {
            for (int before = k - 1; before >= 0 && values.get(k) >= high; before--) {
                if (values.get(before) <= low) {
                    return k - before;
                }
            }
        }
        throw new NoSuchElementException();
    }
}
