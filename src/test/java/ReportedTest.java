/** Promise 13: reported, with each of its kinds. */
public final class ReportedTest {
    private static final int NONE = Steps.NONE;

    public static void main(String[] args) {
        Check check = new Check("ReportedTest");
        bounds(check);
        failures(check);
        jobsAreNotReported(check);
        unhandled(check);
        handledInTime(check);
        handledLate(check);
        cutCheckpointWaits(check);
        numbers(check);
        edgesOfTheIndex(check);
        cutThenHandled(check);
        endOfEachCheckpoint(check);
        lastPromise(check);
        check.end();
    }

    private static void bounds(Check check) {
        PromiseLoop loop = new PromiseLoop();
        check.outOfBounds("reported(0) of a new object", () -> loop.reported(0));
        Steps.define(loop, 0, Steps.FAIL, -999, 0);
        Steps.runOnce(loop, 0, 0);
        check.same("reported(0)", loop.reported(0), 9001);
        check.outOfBounds("reported(1)", () -> loop.reported(1));
        check.outOfBounds("reported(-1)", () -> loop.reported(-1));
    }

    private static void failures(Check check) {
        PromiseLoop loop = new PromiseLoop();
        Steps.define(loop, 0, Steps.MICRO, 1, 0, Steps.WAIT, 2, 1, Steps.FRAME, 3, 0,
                Steps.FAIL, 5, 0);
        Steps.define(loop, 1, Steps.FAIL, 6, 0);
        Steps.define(loop, 2, Steps.FAIL, 7, 0);
        Steps.define(loop, 3, Steps.FAIL, 8, 1);
        Steps.runOnce(loop, 0, 0);
        loop.advance(16);
        loop.turn();
        check.reports("a task, a microtask, a timer, a frame", loop, 10005, 10006, 10007, 10016);
    }

    private static void jobsAreNotReported(Check check) {
        PromiseLoop loop = new PromiseLoop();
        Steps.define(loop, 0, Steps.MAKE, 0, 0, Steps.SETTLE, 0, 0,
                Steps.THEN, 0, Steps.on(1, NONE), Steps.THEN, 0, Steps.on(NONE, 2));
        Steps.define(loop, 1, Steps.FAIL, 5, 0);
        Steps.runOnce(loop, 0, 1);
        check.reports("a job's function that fails", loop);
        check.same("it rejects", loop.state(1), 14);
        check.same("with its number", loop.value(1), 5);
        check.same("and is caught", loop.state(2), 5);
    }

    private static void unhandled(Check check) {
        PromiseLoop loop = new PromiseLoop();
        Steps.define(loop, 0, Steps.MAKE, 0, 0, Steps.MAKE, 1, 0, Steps.MAKE, 2, 0,
                Steps.SETTLE, 2, 1, Steps.SETTLE, 0, 1, Steps.FAIL, 3, 0);
        Steps.runOnce(loop, 0, 77);
        check.reports("in the order of rejection, by number", loop, 10003, 20002, 20000);
        loop.turn();
        check.same("once only", loop.count(6), 3);
    }

    private static void handledInTime(Check check) {
        PromiseLoop loop = new PromiseLoop();
        Steps.define(loop, 0, Steps.MAKE, 0, 0, Steps.SETTLE, 0, 1, Steps.MICRO, 1, 0);
        Steps.define(loop, 1, Steps.MICRO, 2, 0);
        Steps.define(loop, 2, Steps.THEN, 0, Steps.on(NONE, 9));
        Steps.runOnce(loop, 0, 4);
        check.reports("a reaction put before the checkpoint's end", loop);
    }

    private static void handledLate(Check check) {
        PromiseLoop loop = new PromiseLoop();
        Steps.define(loop, 0, Steps.MAKE, 0, 0, Steps.SETTLE, 0, 1);
        Steps.define(loop, 1, Steps.COPY, 1, 0, Steps.THEN, 1, Steps.on(NONE, 9),
                Steps.NOTE, 1, 0, Steps.FAIL, 2, 0);
        Steps.runOnce(loop, 0, 4);
        Steps.runOnce(loop, 1, 0);
        check.reports("at once, for the first reaction", loop, 20000, 30000, 10002);
        Steps.runOnce(loop, 1, 0);
        check.reports("not for the second", loop, 20000, 30000, 10002, 10002);

        PromiseLoop other = new PromiseLoop();
        Steps.define(other, 0, Steps.MAKE, 0, 0, Steps.SETTLE, 0, 1);
        Steps.define(other, 1, Steps.MAKE, 1, 0, Steps.FOLLOW, 1, 0);
        Steps.runOnce(other, 0, 4);
        Steps.runOnce(other, 1, 0);
        check.reports("for the reaction of a promise that follows", other, 20000, 30000, 20001);
    }

    private static void cutCheckpointWaits(Check check) {
        PromiseLoop loop = new PromiseLoop();
        Steps.define(loop, 0, Steps.MAKE, 0, 0, Steps.SETTLE, 0, 1, Steps.MICRO, 1, 0);
        Steps.define(loop, 1, Steps.MICRO, 1, 0);
        Steps.runOnce(loop, 0, 0);
        check.reports("a checkpoint that was cut", loop);
        Steps.define(loop, 1, Steps.NOTE, 1, 0);
        loop.turn();
        check.reports("the end of the next one", loop, 20000);
    }

    /** The number + 10000 * kind, with Java's wrap-around. */
    private static void numbers(Check check) {
        PromiseLoop loop = new PromiseLoop();
        Steps.define(loop, 0, Steps.FAIL, 999, 0);
        Steps.define(loop, 1, Steps.FAIL, 0, 0);
        Steps.define(loop, 2, Steps.FAIL, 0, 1);
        Steps.runOnce(loop, 0, 0);
        Steps.runOnce(loop, 1, 5);
        Steps.runOnce(loop, 2, -10000);
        Steps.runOnce(loop, 2, Integer.MAX_VALUE);
        check.reports("failed with", loop, 10999, 10000, 0, Integer.MIN_VALUE + 9999);
    }

    private static void edgesOfTheIndex(Check check) {
        PromiseLoop loop = new PromiseLoop();
        Steps.define(loop, 0, Steps.FAIL, 1, 0);
        Steps.runOnce(loop, 0, 0);
        Steps.runOnce(loop, 0, 0);
        check.same("the last", loop.reported(1), 10001);
        int[] wrong = {-1, 2, 199, 200, Integer.MIN_VALUE, Integer.MAX_VALUE};
        for (int i : wrong) {
            check.outOfBounds("reported(" + i + ")", () -> loop.reported(i));
        }
    }

    /** What is on the list goes on waiting there, and may be handled until the end that counts. */
    private static void cutThenHandled(Check check) {
        PromiseLoop loop = new PromiseLoop();
        Steps.define(loop, 0, Steps.MAKE, 0, 0, Steps.SETTLE, 0, 1, Steps.MICRO, 1, 0);
        Steps.define(loop, 1, Steps.MICRO, 1, 0);
        Steps.runOnce(loop, 0, 0);
        check.same("rejected and not handled", loop.state(0), 6);
        Steps.define(loop, 1, Steps.THEN, 0, Steps.on(9, 9));
        loop.turn();
        check.same("handled", loop.state(0), 14);
        check.reports("neither as unhandled nor as handled late", loop);
    }

    /** One checkpoint behind the task and one behind each function for a frame. */
    private static void endOfEachCheckpoint(Check check) {
        PromiseLoop loop = new PromiseLoop();
        Steps.define(loop, 0, Steps.MAKE, 0, 0, Steps.SETTLE, 0, 1, Steps.FRAME, 1, 0,
                Steps.FRAME, 2, 0, Steps.FAIL, 5, 0);
        Steps.define(loop, 1, Steps.MAKE, 1, 0, Steps.SETTLE, 1, 1, Steps.THEN, 0, Steps.on(9, 9),
                Steps.FAIL, 6, 0);
        Steps.define(loop, 2, Steps.THEN, 1, Steps.on(9, 9), Steps.FAIL, 7, 0);
        loop.advance(16);
        check.same("the task, two for a frame, two reactions", Steps.runOnce(loop, 0, 0), 5);
        check.reports("in their order", loop, 10005, 20000, 30000, 10006, 20001, 30001, 10007);
    }

    private static void lastPromise(Check check) {
        PromiseLoop loop = new PromiseLoop();
        Steps.define(loop, 0, Steps.MAKE, 0, 0);
        for (int i = 0; i < 39; i++) {
            Steps.runOnce(loop, 0, 0);
        }
        Steps.define(loop, 0, Steps.MAKE, 1, 0, Steps.SETTLE, 1, 1);
        Steps.runOnce(loop, 0, 999);
        Steps.define(loop, 0, Steps.FOLLOW, 0, 1);
        Steps.runOnce(loop, 0, 0);
        check.reports("by its number, not by its value", loop, 20039, 30039, 20038);
    }
}
