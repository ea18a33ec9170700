/** Promises 8 to 11 and 13 for what settles promises: reactions, jobs, and the order of jobs. */
public final class PromisesTest {
    private static final int NONE = Steps.NONE;

    public static void main(String[] args) {
        Check check = new Check("PromisesTest");
        emptyRegistersDoNothing(check);
        resolvedOnce(check);
        itself(check);
        reactionsInOrder(check);
        reactionToASettledOne(check);
        passingOn(check);
        everyNumberForNone(check);
        followingTakesTwoJobs(check);
        followingARejectedOne(check);
        eachOther(check);
        settledBeforeItsJob(check);
        everyEmptyRegister(check);
        firstAndLastFunction(check);
        itselfByOneRegister(check);
        rejectedOnce(check);
        followedByItsJob(check);
        reactionsOfBothKinds(check);
        registersAtTheEdge(check);
        check.end();
    }

    private static void emptyRegistersDoNothing(Check check) {
        PromiseLoop loop = new PromiseLoop();
        Steps.define(loop, 0, Steps.MAKE, 0, 0, Steps.SETTLE, 1, 0, Steps.FOLLOW, 1, 0,
                Steps.FOLLOW, 0, 1, Steps.THEN, 1, Steps.on(2, 2), Steps.NOTE, 1, 0);
        Steps.runOnce(loop, 0, 0);
        check.same("FOLLOW of an empty register", loop.state(0), 0);
        check.same("promises", loop.count(0), 1);
        check.log("the run goes on", loop, 1);
        check.reports("without a failure", loop);
    }

    private static void resolvedOnce(Check check) {
        PromiseLoop loop = new PromiseLoop();
        Steps.define(loop, 0, Steps.MAKE, 0, 0, Steps.MAKE, 1, 0, Steps.SETTLE, 0, 0,
                Steps.SETTLE, 0, 1, Steps.FOLLOW, 0, 1, Steps.FOLLOW, 0, 0);
        Steps.runOnce(loop, 0, 4);
        check.same("the first one counts", loop.state(0), 5);
        check.same("nothing follows the other", loop.state(1), 0);
        Steps.define(loop, 0, Steps.MAKE, 0, 0, Steps.MAKE, 1, 0, Steps.FOLLOW, 0, 1,
                Steps.SETTLE, 0, 0, Steps.SETTLE, 0, 1, Steps.FOLLOW, 0, 0);
        Steps.runOnce(loop, 0, 4);
        check.same("one that follows is resolved", loop.state(2), 4);
        Steps.define(loop, 0, Steps.MAKE, 0, 0, Steps.SETTLE, 0, 1, Steps.SETTLE, 0, 0);
        Steps.runOnce(loop, 0, 4);
        check.same("rejected first", loop.state(4), 6);
    }

    private static void itself(Check check) {
        PromiseLoop loop = new PromiseLoop();
        Steps.define(loop, 0, Steps.MAKE, 0, 0, Steps.COPY, 1, 0, Steps.FOLLOW, 0, 1,
                Steps.NOTE, 1, 0);
        Steps.runOnce(loop, 0, 0);
        check.same("resolved with itself", loop.state(0), 6);
        check.same("is rejected with", loop.value(0), -3);
        check.log("without failing the run", loop, 1);
        check.reports("and is unhandled", loop, 20000);
    }

    private static void reactionsInOrder(Check check) {
        PromiseLoop loop = new PromiseLoop();
        Steps.define(loop, 0, Steps.MAKE, 0, 0, Steps.COPY, 1, 0, Steps.COPY, 2, 0,
                Steps.THEN, 1, Steps.on(1, NONE), Steps.THEN, 2, Steps.on(2, NONE),
                Steps.CALL, 5, 0);
        Steps.define(loop, 5, Steps.THEN, 1, Steps.on(3, NONE), Steps.MICRO, 4, 0,
                Steps.SETTLE, 0, 0, Steps.MICRO, 4, 0);
        for (int f = 1; f <= 4; f++) {
            Steps.define(loop, f, Steps.NOTE, f, 0, Steps.NOTE, 0, 1, Steps.ANSWER, 50 + f, 0);
        }
        check.same("runs", Steps.runOnce(loop, 0, 9), 6);
        check.log("jobs stand among microtasks", loop,
                4, 9, 1, 9, 2, 9, 4, 9, 3, 51);
    }

    private static void reactionToASettledOne(Check check) {
        PromiseLoop loop = new PromiseLoop();
        Steps.define(loop, 0, Steps.MAKE, 0, 0, Steps.SETTLE, 0, 1, Steps.MICRO, 2, 0,
                Steps.THEN, 0, Steps.on(2, 1), Steps.MICRO, 2, 0, Steps.NOTE, 5, 0);
        Steps.define(loop, 1, Steps.NOTE, 0, 1);
        Steps.define(loop, 2, Steps.NOTE, 2, 0);
        check.same("runs", Steps.runOnce(loop, 0, -8), 4);
        check.log("a job at once, not a run", loop, 5, 2, -8, 2);
        check.same("what was handled fulfils", loop.state(1), 5);
    }

    private static void passingOn(Check check) {
        PromiseLoop loop = new PromiseLoop();
        Steps.define(loop, 0, Steps.MAKE, 0, 0, Steps.SETTLE, 0, 0,
                Steps.THEN, 0, Steps.on(NONE, 2), Steps.THEN, 0, Steps.on(1, NONE),
                Steps.THEN, 0, Steps.on(2, NONE), Steps.THEN, 0, Steps.on(NONE, 2));
        Steps.define(loop, 1, Steps.FAIL, 5, 0);
        Steps.define(loop, 2, Steps.NOTE, 0, 1, Steps.ANSWER, 6, 0);
        check.same("the task and two jobs with functions", Steps.runOnce(loop, 0, 3), 3);
        int[] states = {13, 13, 14, 14, 5};
        int[] values = {3, 3, 5, 5, 6};
        for (int p = 0; p < 5; p++) {
            check.same("state(" + p + ")", loop.state(p), states[p]);
            check.same("value(" + p + ")", loop.value(p), values[p]);
        }
        check.log("only the last function", loop, 5);
        check.reports("all is handled", loop);
    }

    private static void everyNumberForNone(Check check) {
        for (int none = 10; none <= 15; none++) {
            PromiseLoop loop = new PromiseLoop();
            Steps.define(loop, 0, Steps.MAKE, 0, 0, Steps.MAKE, 1, 0,
                    Steps.SETTLE, 0, 0, Steps.SETTLE, 1, 1,
                    Steps.THEN, 0, Steps.on(none, 9), Steps.THEN, 1, Steps.on(9, none));
            Steps.define(loop, 9, Steps.NOTE, 9, 0);
            check.same("runs", Steps.runOnce(loop, 0, 3), 1);
            check.same("no function for a value", loop.state(2), 5);
            check.same("no function for a reason", loop.state(3), 6);
        }
    }

    /** The follower's reaction comes behind three jobs: to put, to settle, its own. */
    private static void followingTakesTwoJobs(Check check) {
        PromiseLoop loop = new PromiseLoop();
        Steps.define(loop, 0, Steps.MAKE, 0, 0, Steps.MAKE, 1, 0, Steps.SETTLE, 1, 0,
                Steps.FOLLOW, 0, 1, Steps.THEN, 0, Steps.on(1, NONE), Steps.MICRO, 2, 0);
        Steps.define(loop, 1, Steps.NOTE, 0, 1);
        Steps.define(loop, 2, Steps.NOTE, 2, 0, Steps.MICRO, 3, 0);
        Steps.define(loop, 3, Steps.NOTE, 3, 0, Steps.MICRO, 4, 0);
        Steps.define(loop, 4, Steps.NOTE, 4, 0, Steps.MICRO, 5, 0);
        Steps.define(loop, 5, Steps.NOTE, 5, 0);
        Steps.runOnce(loop, 0, 99);
        check.log("among microtasks that put one another", loop, 2, 3, 99, 4, 5);
    }

    private static void followingARejectedOne(Check check) {
        PromiseLoop loop = new PromiseLoop();
        Steps.define(loop, 0, Steps.MAKE, 0, 0, Steps.MAKE, 1, 0, Steps.SETTLE, 1, 1,
                Steps.FOLLOW, 0, 1);
        Steps.runOnce(loop, 0, -5);
        check.same("rejected as the other", loop.state(0), 6);
        check.same("with its number", loop.value(0), -5);
        check.same("the other is handled", loop.state(1), 14);
        check.reports("only the one that follows", loop, 20000);
    }

    private static void eachOther(Check check) {
        PromiseLoop loop = new PromiseLoop();
        Steps.define(loop, 0, Steps.MAKE, 0, 0, Steps.MAKE, 1, 0, Steps.FOLLOW, 0, 1,
                Steps.FOLLOW, 1, 0);
        Steps.runOnce(loop, 0, 0);
        check.same("pending for ever", loop.state(0), 12);
        check.same("both of them", loop.state(1), 12);
        check.same("with nothing left to do", loop.count(2), 0);
    }

    /** The new promise of a THEN may be settled before its job, whose function is run even so. */
    private static void settledBeforeItsJob(Check check) {
        PromiseLoop loop = new PromiseLoop();
        Steps.define(loop, 0, Steps.MAKE, 0, 0, Steps.SETTLE, 0, 0,
                Steps.THEN, 0, Steps.on(1, NONE), Steps.CALL, 2, 0);
        Steps.define(loop, 1, Steps.NOTE, 1, 0, Steps.ANSWER, 7, 0);
        Steps.define(loop, 2, Steps.SETTLE, 0, 1);
        check.same("runs", Steps.runOnce(loop, 0, 3), 2);
        check.same("rejected before", loop.state(1), 6);
        check.same("with", loop.value(1), 3);
        check.log("the function was run", loop, 1);
    }

    private static void everyEmptyRegister(Check check) {
        PromiseLoop loop = new PromiseLoop();
        for (int r = 0; r < 8; r++) {
            Steps.define(loop, 0, Steps.SETTLE, r, 0, Steps.SETTLE, r, 1, Steps.FOLLOW, r, r,
                    Steps.FOLLOW, r, 7 - r, Steps.THEN, r, Steps.on(9, 9), Steps.NOTE, r, 0);
            check.same("a task", Steps.runOnce(loop, 0, 5), 1);
            check.same("register(" + r + ")", loop.register(r), -1);
        }
        check.same("promises", loop.count(0), 0);
        check.same("jobs", loop.count(2), 0);
        check.log("all steps were done", loop, 0, 1, 2, 3, 4, 5, 6, 7);
        check.reports("no failure", loop);
    }

    /** Functions 0 and 9 are functions, 10 is none; for a value and for a reason. */
    private static void firstAndLastFunction(Check check) {
        for (int f = 0; f <= 10; f++) {
            PromiseLoop loop = new PromiseLoop();
            int task = f == 5 ? 6 : 5;
            Steps.define(loop, task, Steps.MAKE, 0, 0, Steps.MAKE, 1, 0, Steps.SETTLE, 0, 0,
                    Steps.SETTLE, 1, 1, Steps.THEN, 0, Steps.on(f, NONE),
                    Steps.THEN, 1, Steps.on(NONE, f));
            if (f < 10) {
                Steps.define(loop, f, Steps.ANSWER, 100 + f, 0);
            }
            check.same("function " + f, Steps.runOnce(loop, task, 3), f < 10 ? 3 : 1);
            check.same("for a value", loop.value(2), f < 10 ? 100 + f : 3);
            check.same("for a reason", loop.value(3), f < 10 ? 100 + f : 3);
            check.same("what handles a reason fulfils", loop.state(3), f < 10 ? 5 : 6);
        }
    }

    private static void itselfByOneRegister(Check check) {
        PromiseLoop loop = new PromiseLoop();
        Steps.define(loop, 0, Steps.MAKE, 7, 0, Steps.FOLLOW, 7, 7, Steps.SETTLE, 7, 0);
        check.same("no job is put", Steps.runOnce(loop, 0, 4), 1);
        check.same("rejected", loop.state(0), 6);
        check.same("with", loop.value(0), -3);
        Steps.define(loop, 0, Steps.MAKE, 7, 0, Steps.COPY, 6, 7, Steps.THEN, 6, Steps.on(9, 1),
                Steps.FOLLOW, 7, 7);
        Steps.define(loop, 1, Steps.NOTE, 0, 1);
        Steps.runOnce(loop, 0, 4);
        check.log("what waits with it has the reason", loop, -3);
        check.reports("only the one that is not handled", loop, 20000);
    }

    private static void rejectedOnce(Check check) {
        PromiseLoop loop = new PromiseLoop();
        Steps.define(loop, 0, Steps.MAKE, 0, 0, Steps.MAKE, 1, 0, Steps.SETTLE, 0, 1);
        Steps.define(loop, 1, Steps.SETTLE, 0, 1, Steps.SETTLE, 0, 0, Steps.FOLLOW, 0, 1,
                Steps.FOLLOW, 0, 0);
        Steps.runOnce(loop, 0, 4);
        Steps.runOnce(loop, 1, 5);
        check.same("rejected", loop.state(0), 6);
        check.same("with the first number", loop.value(0), 4);
        check.same("nothing follows the other", loop.state(1), 0);
        check.reports("reported once", loop, 20000);
        Steps.define(loop, 0, Steps.MAKE, 2, 0, Steps.MAKE, 3, 0, Steps.FOLLOW, 2, 3,
                Steps.FOLLOW, 2, 1);
        Steps.runOnce(loop, 0, 0);
        check.same("one that follows another", loop.state(2), 4);
        check.same("does not follow a third", loop.state(1), 0);
    }

    /** The other is handled when the job is run that puts the reaction, not before. */
    private static void followedByItsJob(Check check) {
        PromiseLoop loop = new PromiseLoop();
        Steps.define(loop, 0, Steps.MAKE, 0, 0, Steps.MAKE, 1, 0, Steps.CALL, 1, 0,
                Steps.CALL, 1, 0, Steps.FOLLOW, 0, 1);
        Steps.define(loop, 1, Steps.CALL, 2, 0, Steps.CALL, 2, 0, Steps.CALL, 2, 0,
                Steps.CALL, 2, 0, Steps.CALL, 2, 0);
        Steps.define(loop, 2, Steps.MICRO, 9, 0, Steps.MICRO, 9, 0, Steps.MICRO, 9, 0,
                Steps.MICRO, 9, 0, Steps.MICRO, 9, 0, Steps.MICRO, 9, 0);
        check.same("cut before the job", Steps.runOnce(loop, 0, 0), 50);
        check.same("resolved", loop.state(0), 4);
        check.same("the other is not handled yet", loop.state(1), 0);
        loop.turn();
        check.same("handled", loop.state(1), 8);
        check.same("pending still", loop.state(0), 4);
    }

    /** Promise 1 follows promise 0 before a THEN is put there, so it is settled first. */
    private static void reactionsOfBothKinds(Check check) {
        PromiseLoop loop = new PromiseLoop();
        Steps.define(loop, 0, Steps.MAKE, 0, 0, Steps.MAKE, 1, 0, Steps.FOLLOW, 1, 0);
        Steps.runOnce(loop, 0, 0);
        Steps.define(loop, 0, Steps.COPY, 2, 0, Steps.THEN, 2, Steps.on(1, NONE),
                Steps.SETTLE, 0, 0);
        Steps.define(loop, 1, Steps.THEN, 1, Steps.on(2, NONE), Steps.MICRO, 3, 0);
        Steps.define(loop, 2, Steps.NOTE, 2, 0);
        Steps.define(loop, 3, Steps.NOTE, 3, 0);
        Steps.runOnce(loop, 0, 0);
        check.log("promise 1 was settled when function 1 was run", loop, 2, 3);
    }

    private static void registersAtTheEdge(Check check) {
        PromiseLoop loop = new PromiseLoop();
        Steps.define(loop, 0, Steps.MAKE, 0, 0, Steps.MAKE, 7, 0, Steps.SETTLE, 7, 0,
                Steps.FOLLOW, 0, 7);
        Steps.runOnce(loop, 0, 12);
        check.same("register 0 follows register 7", loop.value(0), 12);
        Steps.define(loop, 0, Steps.COPY, 7, 0, Steps.COPY, 0, 6, Steps.THEN, 7, Steps.on(1, 1));
        Steps.define(loop, 1, Steps.ANSWER, 7, 2);
        Steps.runOnce(loop, 0, 0);
        check.same("what register 7 holds", loop.register(7), 2);
        check.same("its own result", loop.value(2), -3);
    }
}
