/** The boundaries of promises 6 to 11: the memory. */
final class MemoryBounds {
    private MemoryBounds() {
    }

    static void all() {
        setLengths();
        setLengthsWhenArmed();
        setHoldoff();
        holdoffBefore();
        armDrops();
        armForgets();
        armKeeps();
        armAnswers();
        disarmDrops();
        disarmAnswers();
        isArmed();
        isCatching();
    }

    private static void setLengths() {
        String refusal = "Throws IllegalArgumentException if pre or post is out of range";
        new Parameter(6, "pre: the pre-length, 0 to 16", refusal, (scope, x) -> scope.setLengths(x, 0)).range(0, 16);
        new Parameter(6, "post: the post-length, 0 to 32", refusal, (scope, x) -> scope.setLengths(0, x)).range(0, 32);
        Check.sentence(6, "Sets the lengths of records.");
        for (int pre : new int[] {0, 16}) {
            for (int post : new int[] {0, 32}) {
                Triggerwright scope = RecordTerms.armed(pre, post);
                Scopes.pushMany(scope, 0, 16);
                Check.due("a record of " + pre + " and " + post, Scopes.pushMany(scope, 1, post + 1), 1);
                Check.due("its length, " + pre + " and " + post, scope.length(0), pre + 1 + post);
                scope.disarm();
                scope.setLengths(16 - pre, 32 - post);
                Check.due("complete records keep theirs", scope.length(0), pre + 1 + post);
            }
        }
    }

    private static void setLengthsWhenArmed() {
        Check.sentence(6, "Throws IllegalStateException if the scope is armed");
        for (Situation at : Situation.values()) {
            for (int pre : new int[] {0, 4, 16}) {
                if (at.armed) {
                    Refusals.badState("setLengths with " + pre, at, scope -> scope.setLengths(pre, 32));
                } else {
                    Check.taken("setLengths at " + at, () -> at.make().setLengths(pre, 32));
                }
            }
        }
        Triggerwright scope = RecordTerms.armed(0, 0);
        Check.badState("armed", () -> scope.setLengths(0, 0));
        scope.disarm();
        Check.taken("not armed any more", () -> scope.setLengths(0, 0));
    }

    private static void setHoldoff() {
        new Parameter(7, "samples: 0 to 1000", "Throws IllegalArgumentException if samples is out of range",
            (scope, x) -> scope.setHoldoff(x)).range(0, 1000);
        Check.sentence(7, "Sets the holdoff.");
        Triggerwright scope = RecordTerms.armed(0, 0);
        scope.setHoldoff(1000);
        Check.due("a trigger", Scopes.feed(scope, 0, 1), 1);
        Check.due("held off", Scopes.feed(scope, 0, 1), 0);
        scope.setHoldoff(0);
        Check.due("not held off, though armed before", Scopes.feed(scope, 0, 1), 1);
        scope.setHoldoff(1000);
        Check.due("held off, though set behind the trigger", Scopes.feed(scope, 0, 1), 0);
    }

    private static void holdoffBefore() {
        Check.sentence(7, "Returns the holdoff before.");
        Triggerwright scope = new Triggerwright();
        Check.due("at first", scope.setHoldoff(1000), 0);
        Check.due("the greatest", scope.setHoldoff(0), 1000);
        Check.due("the least", scope.setHoldoff(0), 0);
        Check.illegal("refused", () -> scope.setHoldoff(1001));
        Check.due("as it was before a refused call", scope.setHoldoff(1), 0);
        scope.arm();
        scope.disarm();
        Check.due("it stays when the scope is armed and disarmed", scope.setHoldoff(0), 1);
    }

    private static void armDrops() {
        Check.sentence(8, "All records are dropped, also one that is being caught;");
        for (Situation at : Situation.values()) {
            Triggerwright scope = at.make();
            scope.arm();
            Check.due("records, " + at, scope.records(), 0);
            Check.due("isCatching, " + at, scope.isCatching(), false);
            Check.due("isArmed, " + at, scope.isArmed(), true);
            Check.outside("record 0, " + at, () -> scope.length(0));
        }
        Triggerwright caught = RecordTerms.armed(0, 2);
        Scopes.feed(caught, 0, 1, 1);
        caught.arm();
        Check.due("the one that lacked one sample doesn't go on", Scopes.feed(caught, 1, 1, 1), 0);
        Check.due("records", caught.records(), 0);
        Check.sentence(8, "Arms the scope.");
        Check.due("a new record", Scopes.feed(caught, 0, 5, 6, 7), 1);
        Check.due("its first value", caught.value(0, 0, 0), 5);
    }

    private static void armForgets() {
        Check.sentence(8, "failures, offences and the latest trigger are forgotten.");
        Triggerwright scope = RecordTerms.armed(0, 0);
        scope.setMask(0, 0, -5, 5);
        scope.setHoldoff(1000);
        Scopes.feed(scope, 0, 9);
        Check.due("a failure", scope.failures(), 1);
        scope.arm();
        Check.due("failures", scope.failures(), 0);
        Check.nothingThere("offences", () -> scope.firstOffence());
        Check.due("the latest trigger", Scopes.feed(scope, 0, 9), 1);
        Check.due("a failure again", scope.failures(), 1);
        Check.due("the first offence again", scope.firstOffence(), 0);
        scope.arm();
        scope.arm();
        Check.due("armed twice", scope.failures(), 0);
    }

    private static void armKeeps() {
        Check.sentence(8, "All records are dropped, also one that is being caught; failures, offences and the latest"
            + " trigger are forgotten.");
        Triggerwright scope = RecordTerms.armed(1, 1);
        scope.setMask(0, 0, 0, 3);
        scope.putChannel(0);
        Scopes.feed(scope, 4, 0);
        scope.arm();
        Check.due("samples stay", scope.samples(), 2);
        Check.due("the condition stays ready, the lengths stay", Scopes.feed(scope, 1, 1), 1);
        Check.due("the samples before stay", scope.value(0, 0, 0), 0);
        Check.due("fired stays", scope.fired(), 1);
        Scopes.feed(scope, 0);
        scope.arm();
        Check.due("fired stays when armed again", scope.fired(), 1);
        Scopes.feed(scope, -1, 1, 1);
        Check.due("the mask stays", scope.failures(), 1);
        Check.due("the expression stays", scope.trace(0, 0), -1);
    }

    private static void armAnswers() {
        Check.sentence(8, "Returns how many complete records are dropped.");
        for (Situation at : Situation.values()) {
            Triggerwright scope = at.make();
            Check.due("arm, " + at, scope.arm(), at.records);
            Check.due("arm again, " + at, scope.arm(), 0);
        }
        Triggerwright seven = RecordTerms.armed(0, 1);
        for (int k = 1; k <= 7; k++) {
            Scopes.feed(seven, 0, 1, 1);
        }
        Scopes.feed(seven, 0, 1);
        Check.due("7 complete ones and one that is being caught", seven.arm(), 7);
    }

    private static void disarmDrops() {
        Check.sentence(9, "Disarms the scope. A record that is being caught is dropped; complete ones stay.");
        for (Situation at : Situation.values()) {
            Triggerwright scope = at.make();
            int failures = scope.failures();
            scope.disarm();
            Check.due("isArmed, " + at, scope.isArmed(), false);
            Check.due("isCatching, " + at, scope.isCatching(), false);
            Check.due("records, " + at, scope.records(), at.records);
            Check.due("failures, " + at, scope.failures(), failures);
            Check.due("no record becomes complete, " + at, Scopes.feed(scope, 0, 1, 0, 1) + scope.push(1, 1, 50), 0);
            scope.disarm();
            Check.due("records, disarmed twice, " + at, scope.records(), at.records);
        }
        Triggerwright scope = Situation.CATCHING.make();
        scope.disarm();
        Check.due("the complete one's trigger", scope.trigger(0), 3);
        Check.due("the complete one's last value", scope.value(0, 0, 5), 4);
    }

    private static void disarmAnswers() {
        Check.sentence(9, "Returns whether it was armed.");
        for (Situation at : Situation.values()) {
            Triggerwright scope = at.make();
            Check.due("disarm, " + at, scope.disarm(), at.armed);
            Check.due("disarm again, " + at, scope.disarm(), false);
        }
    }

    private static void isArmed() {
        Check.sentence(10, "Returns whether the scope is armed.");
        Triggerwright scope = new Triggerwright();
        scope.setLengths(0, 0);
        Check.due("at first", scope.isArmed(), false);
        scope.arm();
        Check.due("armed", scope.isArmed(), true);
        for (int k = 1; k <= 8; k++) {
            Check.due("with " + (k - 1) + " records", scope.isArmed(), true);
            Scopes.feed(scope, 0, 1);
        }
        Check.due("with 8 records", scope.isArmed(), false);
        scope.arm();
        Check.due("armed again", scope.isArmed(), true);
        scope.disarm();
        Check.due("disarmed", scope.isArmed(), false);
    }

    private static void isCatching() {
        Check.sentence(11, "Returns whether a record is being caught.");
        Triggerwright scope = RecordTerms.armed(0, 1);
        Check.due("nothing yet", scope.isCatching(), false);
        Scopes.feed(scope, 0);
        Check.due("before the trigger", scope.isCatching(), false);
        Scopes.feed(scope, 1);
        Check.due("at the trigger", scope.isCatching(), true);
        Scopes.feed(scope, 1);
        Check.due("complete", scope.isCatching(), false);
        for (int k = 2; k <= 8; k++) {
            Scopes.feed(scope, 0, 1);
            Check.due("record " + k, scope.isCatching(), true);
            Scopes.feed(scope, 1);
        }
        Scopes.feed(scope, 0, 1);
        Check.due("8 records", scope.isCatching(), false);
    }
}
