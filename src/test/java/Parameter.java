/** A parameter of a method, with the other arguments given: which numbers are taken and which are refused. */
final class Parameter {
    interface Call {
        void on(Triggerwright scope, int number);
    }

    private static final int MIN = Integer.MIN_VALUE;
    private static final int MAX = Integer.MAX_VALUE;

    private final int promise;
    private final String bullet;
    private final String refusal;
    private final Call call;
    private Situation takenAt = Situation.NEW;
    private boolean behindRecord = false;

    /** The sentences are the one that tells the range and the one that tells the exception. */
    Parameter(int promise, String bullet, String refusal, Call call) {
        this.promise = promise;
        this.bullet = bullet;
        this.refusal = refusal;
        this.call = call;
    }

    /** The call is taken in this situation, not at a new scope. */
    Parameter takenAt(Situation at) {
        takenAt = at;
        return this;
    }

    /** Where there is no record 0, that is refused first. */
    Parameter behindRecord() {
        behindRecord = true;
        return this;
    }

    private void takes(Situation at, int number) {
        Check.taken(number + " at " + at, () -> call.on(at.make(), number));
    }

    /** The ends of the range are taken; what lies beyond, also if it were cut to fewer bits, is refused. */
    void range(int least, int greatest) {
        Check.sentence(promise, bullet);
        takes(takenAt, least);
        takes(takenAt, greatest);
        Check.sentence(promise, refusal);
        for (int number : beyond(least, greatest)) {
            for (Situation at : Situation.values()) {
                if (behindRecord && at.records == 0) {
                    Refusals.outside(number + " for '" + bullet + "'", at, scope -> call.on(scope, number));
                } else {
                    Refusals.illegal(number + " for '" + bullet + "'", at, scope -> call.on(scope, number));
                }
            }
        }
    }

    private static int[] beyond(int least, int greatest) {
        return new int[] {
            least - 1, greatest + 1, MIN, MAX, least - 256, greatest + 256, least - 65536, greatest + 65536,
        };
    }

    /** It is the number of a record: as many as there are complete ones are taken, from 0. */
    void record() {
        for (Situation at : Situation.values()) {
            Check.sentence(promise, bullet);
            for (int record = 0; record < at.records; record++) {
                takes(at, record);
            }
            Check.due("as many as there are records, at " + at, at.make().records(), at.records);
            Check.sentence(promise, refusal);
            for (int number : new int[] {-1, at.records, 8, MIN, MAX, 256, 65536, -65536}) {
                Refusals.outside("record " + number, at, scope -> call.on(scope, number));
            }
        }
    }
}
