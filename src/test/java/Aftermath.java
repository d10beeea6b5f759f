import java.util.function.Supplier;

/** Ways to go on with a scope; each brings out, as a text, something of what the scope keeps. */
enum Aftermath {
    /** Asks all that can be asked without a change. */
    LOOK {
        void tell(Triggerwright scope, StringBuilder told) {
            tellCounts(scope, told);
            for (int record = 0; record < scope.records(); record++) {
                tellRecord(scope, record, told);
            }
        }
    },

    /** Goes on with samples at which a rising edge fires, or a sequence. */
    RISE {
        void tell(Triggerwright scope, StringBuilder told) {
            tellWave(scope, told, 1);
        }
    },

    /** Goes on with a peak, at which an edge fires if it is ready already. */
    PEAK {
        void tell(Triggerwright scope, StringBuilder told) {
            put(told, () -> scope.push(20, 20, 1));
            tellWave(scope, told, -1);
        }
    },

    /** Goes on with samples at which pulses and excursions end. */
    FALL {
        void tell(Triggerwright scope, StringBuilder told) {
            tellWave(scope, told, -1);
        }
    },

    /** Brings the stack down to one part and asks for its trace; counts the parts. */
    STACK {
        void tell(Triggerwright scope, StringBuilder told) {
            for (int k = 0; k < 3; k++) {
                put(told, () -> scope.combine(1));
            }
            for (int record = 0; record < scope.records(); record++) {
                for (int position = 0; position < 7; position++) {
                    int r = record;
                    int p = position;
                    put(told, () -> scope.trace(r, p));
                }
            }
            put(told, () -> scope.putChannel(1));
            put(told, () -> scope.apply(2));
            put(told, () -> scope.clearTrace());
        }
    },

    /** Asks for the holdoff, the lengths and the mask by way of new records. */
    SETTINGS {
        void tell(Triggerwright scope, StringBuilder told) {
            put(told, () -> scope.setHoldoff(0));
            put(told, () -> scope.disarm());
            put(told, () -> scope.arm());
            scope.setEdge(0, 0, 0, true);
            for (int value : new int[] {3, 127}) {
                scope.push(0, 0, 20);
                scope.push(value, 0, 40);
                tellCounts(scope, told);
                put(told, () -> scope.length(0));
                put(told, () -> scope.value(0, 0, 0));
            }
            scope.disarm();
            scope.setLengths(16, 32);
            for (int value : new int[] {3, 127, -128}) {
                scope.arm();
                scope.push(0, 0, 16);
                scope.push(1, 0, 1);
                scope.push(value, 0, 32);
                tellCounts(scope, told);
            }
        }
    };

    abstract void tell(Triggerwright scope, StringBuilder told);

    String of(Triggerwright scope) {
        StringBuilder told = new StringBuilder();
        tell(scope, told);
        return told.toString();
    }

    private static void put(StringBuilder told, Supplier<Object> call) {
        try {
            told.append(call.get());
        } catch (RuntimeException e) {
            told.append(e.getClass().getSimpleName());
        }
        told.append(' ');
    }

    private static void tellCounts(Triggerwright scope, StringBuilder told) {
        put(told, () -> scope.isArmed());
        put(told, () -> scope.isCatching());
        put(told, () -> scope.samples());
        put(told, () -> scope.fired());
        put(told, () -> scope.records());
        put(told, () -> scope.failures());
        put(told, () -> scope.firstOffence());
    }

    private static void tellRecord(Triggerwright scope, int record, StringBuilder told) {
        put(told, () -> scope.trigger(record));
        put(told, () -> scope.length(record));
        put(told, () -> scope.rescan(record));
        for (int position = 0; position < Math.min(6, scope.length(record)); position++) {
            int p = position;
            put(told, () -> scope.value(record, 0, p));
            put(told, () -> scope.value(record, 1, p));
            put(told, () -> scope.trace(record, p));
        }
        for (int source = 0; source <= 2; source++) {
            int s = source;
            put(told, () -> scope.least(record, s));
            put(told, () -> scope.greatest(record, s));
            put(told, () -> scope.average(record, s));
            put(told, () -> scope.crossings(record, s, 0));
        }
    }

    /** Samples that swing wider and wider, each told with what it brought. */
    private static void tellWave(Triggerwright scope, StringBuilder told, int sign) {
        for (int k = 1; k <= 24; k++) {
            int swing = (k / 3 % 2 == 0 ? sign : -sign) * k;
            put(told, () -> scope.push(swing, swing, 1));
            tellCounts(scope, told);
        }
        for (int record = 0; record < Math.min(2, scope.records()); record++) {
            tellRecord(scope, record, told);
        }
    }
}
