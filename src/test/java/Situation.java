import java.util.EnumMap;
import java.util.Map;

/** States of a scope in which a call may be refused; between them they hold all that a scope keeps. */
enum Situation {
    NEW(0, false, false, 0, 0) {
        void prepare(Triggerwright scope) {
        }
    },

    /** An edge that is ready; nothing was caught yet. */
    READY(0, true, false, 2, 2) {
        void prepare(Triggerwright scope) {
            scope.setLengths(1, 2);
            scope.setHoldoff(3);
            scope.setMask(0, 1, -9, 9);
            scope.putChannel(0);
            scope.putConstant(7);
            scope.arm();
            scope.setEdge(0, 5, 2, true);
            scope.push(0, 0, 3);
        }
    },

    /** In the middle of the second record. */
    CATCHING(1, true, true, 1, 2) {
        void prepare(Triggerwright scope) {
            scope.setLengths(2, 3);
            scope.setHoldoff(1);
            scope.setMask(1, 2, -5, 5);
            scope.putChannel(0);
            scope.apply(3);
            scope.arm();
            scope.push(0, 0, 3);
            scope.ramp(1, -1, 1, -1, 4);
            scope.push(0, 0, 1);
            scope.push(20, 3, 1);
            scope.push(21, 4, 1);
        }
    },

    /** 8 records and 16 parts: nothing more has room. */
    FULL(8, false, false, 1, 16) {
        void prepare(Triggerwright scope) {
            scope.setLengths(0, 1);
            scope.setMask(0, 0, -100, 3);
            scope.putChannel(0);
            for (int k = 1; k <= 15; k++) {
                scope.apply(k == 8 ? 3 : 0);
            }
            scope.arm();
            for (int k = 1; k <= 8; k++) {
                scope.push(0, 0, 1);
                scope.push(k, -k, 1);
                scope.push(-k, k, 1);
            }
        }
    },

    /** Disarmed with two records, in the middle of a pulse that was seen; the stack is empty. */
    PULSE(2, false, false, 0, 0) {
        void prepare(Triggerwright scope) {
            scope.setLengths(0, 2);
            scope.setWidth(1, 0, 2, 4, true);
            scope.arm();
            scope.push(1, 0, 1);
            scope.push(2, 1, 2);
            scope.push(3, 0, 1);
            scope.push(4, 0, 2);
            scope.push(5, 1, 3);
            scope.push(6, 0, 3);
            scope.disarm();
            scope.push(3, 9, 2);
        }
    },

    /** In the middle of an excursion that was seen, with a failure behind it. */
    EXCURSION(1, true, false, 3, 3) {
        void prepare(Triggerwright scope) {
            scope.setLengths(1, 0);
            scope.setMask(0, 48, -3, 8);
            scope.setRunt(0, 0, 10);
            scope.putChannel(0);
            scope.putConstant(-4);
            scope.putChannel(1);
            scope.arm();
            Scopes.feed(scope, 0, 9, 0, 4, 5);
        }
    },

    /** A sequence that remembers a rise of channel 0, with the holdoff still running. */
    REMEMBERING(1, true, false, 1, 4) {
        void prepare(Triggerwright scope) {
            scope.setLengths(0, 0);
            scope.setHoldoff(50);
            scope.setSequence(0, 0, 5);
            scope.putConstant(3);
            scope.putConstant(4);
            scope.combine(2);
            scope.apply(0);
            scope.arm();
            Scopes.feedPairs(scope, 0, 0, 1, 1, 0, 0, 1, 0, 1, 0);
        }
    };

    final int records;
    final boolean armed;
    final boolean catching;
    /** How many parts are on the stack, and how many the expression has. */
    final int height;
    final int parts;
    private final Map<Aftermath, String> unchanged = new EnumMap<>(Aftermath.class);

    Situation(int records, boolean armed, boolean catching, int height, int parts) {
        this.records = records;
        this.armed = armed;
        this.catching = catching;
        this.height = height;
        this.parts = parts;
    }

    abstract void prepare(Triggerwright scope);

    Triggerwright make() {
        Triggerwright scope = new Triggerwright();
        prepare(scope);
        return scope;
    }

    /** What an aftermath tells of a scope to which nothing was done in this situation. */
    String unchanged(Aftermath after) {
        return unchanged.computeIfAbsent(after, key -> key.of(make()));
    }

    /** Checks that each situation is what its values say, and that its aftermaths tell it from the others. */
    static void checkAll() {
        for (Situation at : values()) {
            Triggerwright scope = at.make();
            Check.due(at + ": records", scope.records(), at.records);
            Check.due(at + ": isArmed", scope.isArmed(), at.armed);
            Check.due(at + ": isCatching", scope.isCatching(), at.catching);
            Check.due(at + ": clearTrace", scope.clearTrace(), at.parts);
            Check.due(at + ": only a stack of one part has a trace", at.hasTrace(), at.height == 1 && at.records > 0);
        }
    }

    private boolean hasTrace() {
        try {
            make().trace(0, 0);
            return true;
        } catch (IllegalStateException | IndexOutOfBoundsException e) {
            return false;
        }
    }
}
