/** Promise 6: turn, its parts in their order and its 50 runs. */
public final class TurnTest {
    private static final int NONE = Steps.NONE;

    public static void main(String[] args) {
        Check check = new Check("TurnTest");
        partsInOrder(check);
        oneTask(check);
        callsDoNotCount(check);
        cutInACheckpoint(check);
        cutBeforeATask(check);
        cutBeforeATimer(check);
        goneTimersBeginNothing(check);
        jobsWithoutFunctionsBeginNothing(check);
        cutBeforeAJob(check);
        cutBeforeAFrame(check);
        nothingToDo(check);
        exactlyFifty(check);
        oneMoreThanFifty(check);
        cutBetweenFrames(check);
        cutBeforeATaskLeavesFramesDue(check);
        check.end();
    }

    private static void partsInOrder(Check check) {
        PromiseLoop loop = new PromiseLoop();
        Steps.define(loop, 0, Steps.NOTE, 1, 0, Steps.MICRO, 1, 0, Steps.FRAME, 2, 0,
                Steps.FRAME, 3, 0, Steps.NOTE, 2, 0);
        Steps.define(loop, 1, Steps.NOTE, 3, 0, Steps.FRAME, 3, 0);
        Steps.define(loop, 2, Steps.NOTE, 4, 0, Steps.MICRO, 4, 0, Steps.FRAME, 2, 0);
        Steps.define(loop, 3, Steps.NOTE, 0, 1);
        Steps.define(loop, 4, Steps.NOTE, 5, 0, Steps.MICRO, 5, 0);
        Steps.define(loop, 5, Steps.NOTE, 6, 0);
        loop.advance(16);
        check.same("turn()", Steps.runOnce(loop, 0, 0), 7);
        check.log("task, microtask, frame, its microtasks, frames", loop,
                1, 2, 3, 4, 5, 6, 16, 16);
        check.same("asked for in the frame", loop.count(4), 1);
        check.same("an idle turn", loop.turn(), 0);
    }

    private static void oneTask(Check check) {
        PromiseLoop loop = new PromiseLoop();
        Steps.define(loop, 0, Steps.POST, 1, 0, Steps.NOTE, 1, 0);
        Steps.define(loop, 1, Steps.NOTE, 2, 0);
        check.same("a task that puts a task", Steps.runOnce(loop, 0, 0), 1);
        check.log("is alone in its turn", loop, 1);
        check.same("the next turn", loop.turn(), 1);
        check.log("has the other", loop, 1, 2);
    }

    private static void callsDoNotCount(Check check) {
        PromiseLoop loop = new PromiseLoop();
        Steps.define(loop, 0, Steps.CALL, 1, 0, Steps.TRY, 2, 1, Steps.MICRO, 1, 0);
        Steps.define(loop, 1, Steps.NOTE, 1, 0);
        Steps.define(loop, 2, Steps.FAIL, 1, 0);
        check.same("the task and its microtask", Steps.runOnce(loop, 0, 0), 2);
        check.log("with what was called", loop, 1, 1, 1);
    }

    private static void cutInACheckpoint(Check check) {
        PromiseLoop loop = new PromiseLoop();
        Steps.define(loop, 0, Steps.MICRO, 0, 0, Steps.NOTE, 8, 0);
        loop.post(0, 0, 0);
        loop.post(0, 1, 0);
        check.same("the task and 49 microtasks", loop.turn(), 50);
        check.same("one is left", loop.count(2), 1);
        check.same("50 in the first checkpoint", loop.turn(), 50);
        check.same("one is left again", loop.count(2), 1);
        check.same("the task is where it was", loop.count(1), 1);
        check.same("all runs were whole", loop.count(5), 100);
        loop.clear(0);
        check.same("the microtask and the task", loop.turn(), 2);
    }

    /**
     * The first checkpoint of its next turn begins just 50 runs and has none left: 1 of function 9,
     * 7 of function 8 and 42 of function 6, which has no steps yet. Functions 0 to 5 are free.
     */
    private static PromiseLoop withFiftyToBegin() {
        PromiseLoop loop = new PromiseLoop();
        leaveFiftyToBegin(loop);
        return loop;
    }

    private static void leaveFiftyToBegin(PromiseLoop loop) {
        Steps.define(loop, 9, Steps.MICRO, 9, 0);
        Steps.runOnce(loop, 9, 3);
        Steps.define(loop, 9, Steps.CALL, 7, 0, Steps.MICRO, 8, 0);
        for (int i = 0; i < 6; i++) {
            loop.step(7, Steps.MICRO, 8, 0);
            loop.step(8, Steps.MICRO, 6, 0);
        }
    }

    /** Like it, with timers 1 and 2 whose tasks wait; both are for function 0. */
    private static PromiseLoop withFiftyAndTimers() {
        PromiseLoop loop = new PromiseLoop();
        Steps.define(loop, 9, Steps.WAIT, 0, 1, Steps.EVERY, 0, 1);
        Steps.runOnce(loop, 9, 3);
        leaveFiftyToBegin(loop);
        loop.advance(1);
        return loop;
    }

    private static void cutBeforeATask(Check check) {
        PromiseLoop loop = withFiftyToBegin();
        Steps.define(loop, 0, Steps.NOTE, 7, 0);
        loop.post(1, 0, 0);
        check.same("50 microtasks", loop.turn(), 50);
        check.same("none is left", loop.count(2), 0);
        check.same("the task stays", loop.count(1), 1);
        check.log("and was not run", loop);
        check.same("the task", loop.turn(), 1);
        check.log("was run", loop, 7);
    }

    private static void cutBeforeATimer(Check check) {
        PromiseLoop loop = withFiftyAndTimers();
        Steps.define(loop, 0, Steps.NOTE, 0, 1);
        check.same("50 microtasks", loop.turn(), 50);
        check.same("the timers' tasks stay", loop.count(1), 2);
        check.same("the timer is there", loop.due(1), -2);
        check.same("the timer's task", loop.turn(), 1);
        check.log("was run", loop, 3);
        check.same("the timer is gone", loop.due(1), -1);
    }

    private static void goneTimersBeginNothing(Check check) {
        PromiseLoop loop = withFiftyAndTimers();
        Steps.define(loop, 6, Steps.CANCEL, 1, 0);
        loop.advance(16);
        check.same("50 microtasks", loop.turn(), 50);
        check.same("the task of the timer that is gone was done", loop.count(1), 1);
        Steps.define(loop, 0, Steps.FRAME, 2, 0);
        check.same("the other timer, and no frame", loop.turn(), 1);
        check.same("the turn before was done to its end", loop.count(4), 1);
    }

    private static void jobsWithoutFunctionsBeginNothing(Check check) {
        PromiseLoop loop = withFiftyToBegin();
        Steps.define(loop, 6, Steps.SETTLE, 0, 0);
        Steps.define(loop, 9, Steps.CALL, 7, 0, Steps.MICRO, 8, 0, Steps.MAKE, 0, 0,
                Steps.COPY, 1, 0, Steps.THEN, 1, Steps.on(NONE, 5));
        check.same("50 microtasks", loop.turn(), 50);
        check.same("and the job", loop.count(2), 0);
        check.same("settled by it", loop.state(1), 5);
        check.same("with", loop.value(1), 3);
    }

    private static void cutBeforeAJob(Check check) {
        PromiseLoop loop = withFiftyToBegin();
        Steps.define(loop, 6, Steps.SETTLE, 0, 1);
        Steps.define(loop, 5, Steps.NOTE, 0, 1);
        Steps.define(loop, 9, Steps.CALL, 7, 0, Steps.MICRO, 8, 0, Steps.MAKE, 0, 0,
                Steps.COPY, 1, 0, Steps.THEN, 1, Steps.on(NONE, 5));
        check.same("50 microtasks", loop.turn(), 50);
        check.same("the job stays", loop.count(2), 1);
        check.same("its promise is pending", loop.state(1), 0);
        check.log("its function was not run", loop);
        check.same("the job", loop.turn(), 1);
        check.log("was run", loop, 3);
        check.same("settled by it", loop.state(1), 5);
    }

    private static void cutBeforeAFrame(Check check) {
        PromiseLoop loop = withFiftyToBegin();
        Steps.define(loop, 9, Steps.CALL, 7, 0, Steps.MICRO, 8, 0, Steps.FRAME, 0, 0,
                Steps.FRAME, 1, 0);
        Steps.define(loop, 0, Steps.NOTE, 0, 1);
        Steps.define(loop, 1, Steps.NOTE, 1, 0);
        loop.advance(17);
        check.same("50 microtasks", loop.turn(), 50);
        check.same("what was asked for stays", loop.count(4), 2);
        check.log("and was not run", loop);
        check.same("frames are due still", loop.turn(), 2);
        check.log("in their order", loop, 17, 1);
    }

    private static void nothingToDo(Check check) {
        PromiseLoop loop = new PromiseLoop();
        check.same("no task, no microtask, no frame", loop.turn(), 0);
        Steps.define(loop, 0, Steps.WAIT, 1, 2, Steps.FRAME, 1, 0);
        Steps.runOnce(loop, 0, 0);
        loop.advance(1);
        check.same("a timer and a frame that are not due", loop.turn(), 0);
    }

    /**
     * Its task is for function 0, which rejects promise 0 and puts 48 microtasks and those that
     * function 5 puts.
     */
    private static PromiseLoop withManyMicrotasks(int... five) {
        PromiseLoop loop = new PromiseLoop();
        Steps.define(loop, 0, Steps.MAKE, 0, 0, Steps.SETTLE, 0, 1, Steps.CALL, 1, 0,
                Steps.CALL, 3, 0, Steps.CALL, 5, 0);
        for (int i = 0; i < 6; i++) {
            loop.step(1, Steps.CALL, 2, 0);
            loop.step(2, Steps.MICRO, 9, 0);
        }
        Steps.define(loop, 3, Steps.CALL, 2, 0, Steps.CALL, 2, 0);
        Steps.define(loop, 5, five);
        loop.advance(16);
        loop.post(0, 0, 0);
        return loop;
    }

    private static void exactlyFifty(Check check) {
        PromiseLoop loop = withManyMicrotasks(Steps.MICRO, 9, 0);
        check.same("the task and 49 microtasks", loop.turn(), 50);
        check.same("none is left", loop.count(2), 0);
        check.reports("the checkpoint came to its end", loop, 20000);
        Steps.define(loop, 6, Steps.FRAME, 9, 0);
        check.same("and the turn: frames are not due", Steps.runOnce(loop, 6, 0), 1);
    }

    private static void oneMoreThanFifty(Check check) {
        PromiseLoop loop = withManyMicrotasks(Steps.MICRO, 9, 0, Steps.MICRO, 9, 0);
        check.same("the task and 49 microtasks", loop.turn(), 50);
        check.same("the 50th is left", loop.count(2), 1);
        check.reports("the checkpoint was cut", loop);
        Steps.define(loop, 6, Steps.FRAME, 9, 0);
        check.same("and the turn: frames are due", Steps.runOnce(loop, 6, 0), 3);
        check.reports("the end of the next checkpoint", loop, 20000);
    }

    private static void cutBetweenFrames(Check check) {
        PromiseLoop loop = withManyMicrotasks(Steps.FRAME, 7, 0, Steps.FRAME, 8, 0);
        Steps.define(loop, 7, Steps.NOTE, 7, 0, Steps.MAKE, 1, 0, Steps.SETTLE, 1, 1,
                Steps.FRAME, 9, 0);
        Steps.define(loop, 8, Steps.NOTE, 8, 0);
        check.same("the task, 48 microtasks and the first function", loop.turn(), 50);
        check.log("the second was not run", loop, 7);
        check.reports("the checkpoint between them was", loop, 20000, 20001);
        check.same("it stays, and one asked for since", loop.count(4), 2);
        check.same("frames are due still", loop.turn(), 2);
        check.log("the second", loop, 7, 8);
        check.same("not any more", loop.turn(), 0);
    }

    /** It ends at once: that no function is asked for a frame is not looked at. */
    private static void cutBeforeATaskLeavesFramesDue(Check check) {
        PromiseLoop loop = withFiftyToBegin();
        Steps.define(loop, 0, Steps.FRAME, 1, 0);
        Steps.define(loop, 1, Steps.NOTE, 0, 1);
        loop.post(0, 0, 0);
        loop.advance(16);
        check.same("50 microtasks", loop.turn(), 50);
        check.same("the task and the frame", loop.turn(), 2);
        check.log("frames were due still", loop, 16);
    }
}
