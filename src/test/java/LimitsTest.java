/** What a step fails with -2 for, and what is put always. */
public final class LimitsTest {
    private static final int NONE = Steps.NONE;
    private static final int FULL = 9998;

    public static void main(String[] args) {
        Check check = new Check("LimitsTest");
        promises(check);
        tasks(check);
        microtasks(check);
        jobsAreAlwaysPut(check);
        timers(check);
        cancelledTimersMakeRoom(check);
        manyTasksOfCancelledTimers(check);
        fortiethByThen(check);
        tasksOfTimersCount(check);
        aboveSixty(check);
        reactionsJobIsPut(check);
        failedStepsPutNothing(check);
        mostJobsAtOnce(check);
        check.end();
    }

    private static void sixSteps(PromiseLoop loop, int f, int code, int a, int b) {
        loop.clear(f);
        for (int i = 0; i < 6; i++) {
            loop.step(f, code, a, b);
        }
    }

    private static void promises(Check check) {
        PromiseLoop loop = new PromiseLoop();
        sixSteps(loop, 0, Steps.MAKE, 0, 0);
        for (int i = 0; i < 6; i++) {
            Steps.runOnce(loop, 0, 0);
        }
        Steps.define(loop, 0, Steps.MAKE, 1, 0, Steps.THEN, 1, Steps.on(9, 9), Steps.MAKE, 2, 0,
                Steps.MAKE, 3, 0, Steps.MAKE, 4, 0, Steps.NOTE, 1, 0);
        Steps.runOnce(loop, 0, 0);
        check.same("promises", loop.count(0), 40);
        check.same("the last", loop.register(3), 39);
        check.same("none", loop.register(4), -1);
        check.reports("the 41st", loop, FULL);
        check.log("ended the run", loop);
        Steps.define(loop, 0, Steps.THEN, 7, Steps.on(9, 9), Steps.NOTE, 2, 0,
                Steps.THEN, 3, Steps.on(9, 9), Steps.NOTE, 3, 0);
        Steps.runOnce(loop, 0, 0);
        check.log("THEN of an empty register makes none", loop, 2);
        check.reports("THEN of another would", loop, FULL, FULL);
        check.same("and puts no reaction", loop.state(39), 0);
        check.same("its register is as it was", loop.register(3), 39);
    }

    private static void tasks(Check check) {
        PromiseLoop loop = new PromiseLoop();
        Steps.define(loop, 0, Steps.POST, 1, 2, Steps.NOTE, 1, 0, Steps.POST, 1, 0,
                Steps.NOTE, 2, 0);
        loop.post(0, 0, 0);
        for (int i = 0; i < 39; i++) {
            loop.post(1, 1, 0);
        }
        loop.turn();
        check.same("tasks", loop.count(1), 40);
        check.log("one was put", loop, 1);
        check.reports("the other was not", loop, FULL);
    }

    private static void microtasks(Check check) {
        PromiseLoop loop = new PromiseLoop();
        sixSteps(loop, 1, Steps.MICRO, 9, 0);
        sixSteps(loop, 2, Steps.CALL, 1, 0);
        Steps.define(loop, 0, Steps.CALL, 2, 0, Steps.CALL, 3, 0, Steps.NOTE, 1, 0,
                Steps.MICRO, 9, 0, Steps.NOTE, 2, 0);
        Steps.define(loop, 3, Steps.CALL, 1, 0, Steps.CALL, 1, 0, Steps.CALL, 1, 0,
                Steps.CALL, 1, 0);
        check.same("cut", Steps.runOnce(loop, 0, 0), 50);
        check.log("60 microtasks", loop, 1);
        check.reports("the 61st", loop, FULL);
        check.same("left", loop.count(2), 11);
        check.same("the rest", loop.turn(), 11);
    }

    private static void jobsAreAlwaysPut(Check check) {
        PromiseLoop loop = new PromiseLoop();
        Steps.define(loop, 4, Steps.MAKE, 0, 0, Steps.MAKE, 1, 0, Steps.COPY, 2, 0,
                Steps.THEN, 2, Steps.on(NONE, NONE));
        Steps.runOnce(loop, 4, 0);
        sixSteps(loop, 1, Steps.MICRO, 9, 0);
        sixSteps(loop, 2, Steps.CALL, 1, 0);
        Steps.define(loop, 3, Steps.CALL, 1, 0, Steps.CALL, 1, 0, Steps.CALL, 1, 0,
                Steps.CALL, 1, 0, Steps.SETTLE, 0, 0, Steps.FOLLOW, 1, 0);
        Steps.define(loop, 0, Steps.CALL, 2, 0, Steps.CALL, 3, 0, Steps.NOTE, 1, 0);
        Steps.runOnce(loop, 0, 7);
        check.log("no failure", loop, 1);
        check.same("11 microtasks and two jobs are left", loop.count(2), 13);
        loop.turn();
        check.same("settled by a job", loop.state(2), 5);
        check.same("settled by jobs", loop.state(1), 5);
        jobsCountForMicrotasks(check);
    }

    private static void jobsCountForMicrotasks(Check check) {
        PromiseLoop loop = new PromiseLoop();
        sixSteps(loop, 1, Steps.MICRO, 9, 0);
        sixSteps(loop, 2, Steps.CALL, 1, 0);
        Steps.define(loop, 3, Steps.CALL, 1, 0, Steps.CALL, 1, 0, Steps.CALL, 1, 0,
                Steps.CALL, 4, 0, Steps.MICRO, 9, 0);
        Steps.define(loop, 4, Steps.MICRO, 9, 0, Steps.MICRO, 9, 0, Steps.MICRO, 9, 0,
                Steps.MICRO, 9, 0, Steps.MICRO, 9, 0);
        Steps.define(loop, 0, Steps.MAKE, 0, 0, Steps.MAKE, 1, 0, Steps.FOLLOW, 0, 1,
                Steps.CALL, 2, 0, Steps.CALL, 3, 0, Steps.NOTE, 1, 0);
        Steps.runOnce(loop, 0, 0);
        check.log("a job and 60 microtasks would be 61", loop);
        check.reports("so the last fails", loop, FULL);
    }

    private static void timers(Check check) {
        PromiseLoop loop = new PromiseLoop();
        sixSteps(loop, 0, Steps.WAIT, 1, 9);
        sixSteps(loop, 2, Steps.EVERY, 1, 9);
        Steps.define(loop, 1, Steps.WAIT, 3, 5, Steps.NOTE, 1, 0, Steps.EVERY, 3, 5);
        Steps.runOnce(loop, 0, 0);
        Steps.runOnce(loop, 2, 0);
        check.same("timers", loop.count(3), 12);
        check.reports("are not too many", loop);
        Steps.runOnce(loop, 0, 0);
        Steps.runOnce(loop, 2, 0);
        check.reports("the 13th", loop, FULL, FULL);
        check.same("no number was used", loop.due(13), -1);
        loop.advance(9);
        Steps.runOnce(loop, 0, 0);
        check.reports("those whose tasks wait are there", loop, FULL, FULL, FULL);
        loop.turn();
        check.log("in its own run, a timer that does not repeat is not", loop, 1);
        check.same("so it made number 13", loop.due(13), 14);
        check.reports("and one only", loop, FULL, FULL, FULL, FULL);
    }

    private static void cancelledTimersMakeRoom(Check check) {
        PromiseLoop loop = new PromiseLoop();
        sixSteps(loop, 0, Steps.WAIT, 1, 9);
        Steps.runOnce(loop, 0, 0);
        Steps.runOnce(loop, 0, 0);
        Steps.define(loop, 2, Steps.CANCEL, 12, 0, Steps.CANCEL, 1, 0, Steps.CANCEL, 99, 0,
                Steps.EVERY, 1, 2, Steps.EVERY, 1, 2, Steps.EVERY, 1, 2);
        Steps.runOnce(loop, 2, 0);
        check.same("timers", loop.count(3), 12);
        check.reports("two found room", loop, FULL);
        check.same("due(14)", loop.due(14), 2);
        check.same("due(15)", loop.due(15), -1);
        cancelledInItsRun(check);
    }

    private static void cancelledInItsRun(Check check) {
        PromiseLoop loop = new PromiseLoop();
        Steps.define(loop, 0, Steps.EVERY, 1, 5);
        Steps.define(loop, 1, Steps.CANCEL, 1, 0, Steps.WAIT, 2, 7, Steps.FAIL, 4, 0);
        Steps.runOnce(loop, 0, 0);
        loop.advance(5);
        loop.turn();
        check.same("a repeating timer that cancels itself", loop.due(1), -1);
        check.same("is not what took its place", loop.due(2), 12);
        check.same("timers", loop.count(3), 1);
        cancelledAndNothingElse(check);
        cancelledForARepeatingOne(check);
        failedInItsRun(check);
    }

    private static void cancelledAndNothingElse(Check check) {
        PromiseLoop loop = new PromiseLoop();
        Steps.define(loop, 0, Steps.EVERY, 1, 5);
        Steps.define(loop, 1, Steps.CANCEL, 1, 0);
        Steps.runOnce(loop, 0, 0);
        loop.advance(5);
        check.same("its last run", loop.turn(), 1);
        check.same("it is not due again", loop.due(1), -1);
        check.same("no timer", loop.count(3), 0);
        loop.advance(100);
        check.same("no task", loop.count(1), 0);
    }

    /** The one in its place is as it was made: of level 2, and due by its own delay. */
    private static void cancelledForARepeatingOne(Check check) {
        PromiseLoop loop = new PromiseLoop();
        Steps.define(loop, 0, Steps.EVERY, 1, 5);
        Steps.define(loop, 1, Steps.CANCEL, 1, 0, Steps.EVERY, 2, 3);
        Steps.runOnce(loop, 0, 0);
        loop.advance(5);
        loop.turn();
        check.same("the old one", loop.due(1), -1);
        for (int level = 2; level <= 6; level++) {
            int counted = level > 5 ? 4 : 3;
            check.same("the new one", loop.due(2) - loop.time(), counted);
            loop.advance(counted);
            loop.turn();
        }
    }

    private static void failedInItsRun(Check check) {
        PromiseLoop loop = new PromiseLoop();
        Steps.define(loop, 0, Steps.EVERY, 1, 5);
        Steps.define(loop, 1, Steps.FAIL, 4, 0);
        Steps.runOnce(loop, 0, 0);
        loop.advance(5);
        loop.turn();
        check.reports("a repeating timer that fails", loop, 10004);
        check.same("repeats even so", loop.due(1), 10);
    }

    /** Tasks of cancelled timers go on waiting, far above the 40 that a step may put. */
    private static void manyTasksOfCancelledTimers(Check check) {
        PromiseLoop loop = new PromiseLoop();
        Steps.define(loop, 0, Steps.FRAME, 0, 0, Steps.CALL, 1, 0, Steps.CALL, 2, 0);
        sixSteps(loop, 2, Steps.WAIT, 9, 1);
        Steps.define(loop, 9, Steps.NOTE, 9, 0);
        Steps.runOnce(loop, 0, 0);
        int rounds = 30;
        for (int round = 0; round < rounds; round++) {
            loop.clear(1);
            for (int i = 1; i <= 6; i++) {
                loop.step(1, Steps.CANCEL, 6 * round + i, 0);
            }
            loop.advance(16);
            loop.turn();
        }
        loop.clear(0);
        loop.advance(16);
        int waiting = 6 * (rounds + 1) - rounds;
        check.same("six tasks more a round, one done", loop.count(1), waiting);
        check.illegalState("post", () -> loop.post(0, 9, 0));
        check.log("the first timer was run before its frame", loop, 9);
        for (int i = 0; i < waiting; i++) {
            loop.turn();
        }
        check.same("all tasks were done", loop.count(1), 0);
        check.log("of timers that were there, the last six", loop, 9, 9, 9, 9, 9, 9, 9);
    }

    private static void fortiethByThen(Check check) {
        PromiseLoop loop = new PromiseLoop();
        Steps.define(loop, 0, Steps.MAKE, 0, 0);
        for (int i = 0; i < 39; i++) {
            Steps.runOnce(loop, 0, 0);
        }
        Steps.define(loop, 0, Steps.THEN, 0, Steps.on(NONE, NONE), Steps.NOTE, 1, 0,
                Steps.THEN, 0, Steps.on(NONE, NONE), Steps.NOTE, 2, 0);
        Steps.runOnce(loop, 0, 0);
        check.same("the 40th", loop.register(0), 39);
        check.log("was made", loop, 1);
        check.reports("the 41st was not", loop, FULL);
        Steps.define(loop, 0, Steps.MAKE, 0, 0, Steps.NOTE, 3, 0);
        Steps.runOnce(loop, 0, 0);
        check.same("MAKE leaves its register", loop.register(0), 39);
        check.same("promises", loop.count(0), 40);
        check.reports("and fails", loop, FULL, FULL);
    }

    /** POST finds 39, 40 and 41 tasks, two of timers among them. */
    private static void tasksOfTimersCount(Check check) {
        for (int waiting = 39; waiting <= 41; waiting++) {
            PromiseLoop loop = new PromiseLoop();
            Steps.define(loop, 0, Steps.WAIT, 9, 1, Steps.WAIT, 9, 1);
            Steps.runOnce(loop, 0, 0);
            Steps.define(loop, 0, Steps.POST, 9, 1, Steps.NOTE, 1, 0);
            loop.post(0, 0, 0);
            for (int i = 0; i < waiting - 2; i++) {
                loop.post(0, 9, 0);
            }
            loop.advance(1);
            loop.turn();
            check.same("tasks", loop.count(1), waiting == 39 ? 40 : waiting);
            check.same("POST with " + waiting, loop.count(6), waiting == 39 ? 0 : 1);
            check.same("went on", loop.count(5), waiting == 39 ? 1 : 0);
        }
    }

    /** Function 1 puts 6 microtasks, function 2 puts 36, function 3 puts 24. */
    private static PromiseLoop withFunctionsForSixty() {
        PromiseLoop loop = new PromiseLoop();
        sixSteps(loop, 1, Steps.MICRO, 9, 0);
        sixSteps(loop, 2, Steps.CALL, 1, 0);
        Steps.define(loop, 3, Steps.CALL, 1, 0, Steps.CALL, 1, 0, Steps.CALL, 1, 0,
                Steps.CALL, 1, 0);
        return loop;
    }

    private static void aboveSixty(Check check) {
        PromiseLoop loop = withFunctionsForSixty();
        Steps.define(loop, 0, Steps.MAKE, 0, 0, Steps.MAKE, 1, 0, Steps.MAKE, 2, 0);
        Steps.runOnce(loop, 0, 0);
        Steps.define(loop, 4, Steps.FOLLOW, 0, 1, Steps.FOLLOW, 1, 2, Steps.NOTE, 1, 0,
                Steps.MICRO, 9, 0, Steps.NOTE, 2, 0);
        Steps.define(loop, 0, Steps.CALL, 2, 0, Steps.CALL, 3, 0, Steps.CALL, 4, 0);
        Steps.runOnce(loop, 0, 0);
        check.log("jobs are put where 60 wait", loop, 1);
        check.reports("a microtask is not put where 62 wait", loop, FULL);
        check.same("left: 62 less 49", loop.count(2), 13);
    }

    private static void reactionsJobIsPut(Check check) {
        PromiseLoop loop = withFunctionsForSixty();
        Steps.define(loop, 0, Steps.MAKE, 0, 0, Steps.SETTLE, 0, 0, Steps.CALL, 2, 0,
                Steps.CALL, 3, 0, Steps.THEN, 0, Steps.on(5, 5), Steps.NOTE, 1, 0);
        Steps.define(loop, 5, Steps.NOTE, 0, 1);
        Steps.runOnce(loop, 0, 8);
        check.log("THEN where 60 wait", loop, 1);
        check.reports("does not fail", loop);
        check.same("left: 61 less 49", loop.count(2), 12);
        check.same("the rest, its job as the last", loop.turn(), 12);
        check.log("with its function", loop, 1, 8);
    }

    /** A step that fails leaves no number used, no place taken and nothing that waits. */
    private static void failedStepsPutNothing(Check check) {
        PromiseLoop loop = new PromiseLoop();
        sixSteps(loop, 0, Steps.WAIT, 9, 50);
        Steps.runOnce(loop, 0, 0);
        Steps.runOnce(loop, 0, 0);
        Steps.runOnce(loop, 0, 0);
        check.reports("a 13th timer", loop, FULL);
        Steps.define(loop, 1, Steps.CANCEL, 5, 0, Steps.EVERY, 9, 60, Steps.NOTE, 1, 0,
                Steps.EVERY, 9, 60, Steps.NOTE, 2, 0);
        Steps.runOnce(loop, 1, 0);
        check.same("its number is the next one's", loop.due(13), 60);
        check.same("there is no other", loop.due(14), -1);
        check.same("timers", loop.count(3), 12);
        check.log("one found room", loop, 1);
        check.reports("the other did not", loop, FULL, FULL);
    }

    /**
     * Promises 2 to 39 are each made by a THEN to promise 0 and follow promise 1, so that both have
     * 38 reactions, which become jobs behind 60 microtasks.
     */
    private static void mostJobsAtOnce(Check check) {
        PromiseLoop loop = withFunctionsForSixty();
        Steps.define(loop, 0, Steps.MAKE, 0, 0, Steps.MAKE, 1, 0);
        Steps.runOnce(loop, 0, 0);
        Steps.define(loop, 0, Steps.COPY, 2, 0, Steps.THEN, 2, Steps.on(5, 5), Steps.FOLLOW, 2, 1,
                Steps.COPY, 2, 0, Steps.THEN, 2, Steps.on(5, 5), Steps.FOLLOW, 2, 1);
        for (int i = 0; i < 19; i++) {
            Steps.runOnce(loop, 0, 0);
        }
        check.same("promises", loop.count(0), 40);
        Steps.define(loop, 0, Steps.CALL, 2, 0, Steps.CALL, 3, 0, Steps.SETTLE, 0, 0,
                Steps.SETTLE, 1, 1);
        check.same("cut", Steps.runOnce(loop, 0, 6), 50);
        check.same("60 microtasks and 76 jobs, less 49", loop.count(2), 87);
        check.same("11 microtasks and 38 functions", loop.turn(), 49);
        check.same("none is left", loop.count(2), 0);
        for (int p = 2; p < 40; p++) {
            check.same("state(" + p + ")", loop.state(p), 6);
            check.same("value(" + p + ")", loop.value(p), 6);
            check.same("reported(" + (p - 2) + ")", loop.reported(p - 2), 20000 + p);
        }
    }
}
