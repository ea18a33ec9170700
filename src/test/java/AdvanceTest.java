/** Promise 7: advance, and the order in which it puts the tasks of timers. */
public final class AdvanceTest {
    public static void main(String[] args) {
        Check check = new Check("AdvanceTest");
        PromiseLoop loop = new PromiseLoop();
        check.same("advance(1)", loop.advance(1), 1);
        check.same("advance(100)", loop.advance(100), 101);
        check.illegalArgument("advance(0)", () -> loop.advance(0));
        check.illegalArgument("advance(101)", () -> loop.advance(101));
        check.illegalArgument("advance(-1)", () -> loop.advance(-1));
        check.illegalArgument("advance(largest)", () -> loop.advance(Integer.MAX_VALUE));
        check.same("the time after refusals", loop.time(), 101);
        check.same("advance(9)", loop.advance(9), 110);
        ordersTasks(check);
        runsNothing(check);
        putsOneTaskOnly(check);
        refusedOnesSetNothing(check);
        dueBetweenAndAtTheEnds(check);
        check.end();
    }

    private static void ordersTasks(Check check) {
        PromiseLoop loop = new PromiseLoop();
        Steps.define(loop, 0,
                Steps.WAIT, 1, 9, Steps.WAIT, 2, 3, Steps.EVERY, 3, 9, Steps.WAIT, 4, 1,
                Steps.WAIT, 5, 3, Steps.WAIT, 6, 10);
        for (int f = 1; f <= 6; f++) {
            Steps.define(loop, f, Steps.NOTE, f, 0);
        }
        Steps.runOnce(loop, 0, 0);
        loop.post(1, 6, 0);
        loop.advance(9);
        check.same("those reached", loop.count(1), 6);
        check.same("the one not reached", loop.due(6), 10);
        loop.advance(1);
        for (int i = 0; i < 7; i++) {
            loop.turn();
        }
        check.log("by time, then by number, behind what waited", loop, 6, 4, 2, 5, 1, 3, 6);
    }

    private static void runsNothing(Check check) {
        PromiseLoop loop = new PromiseLoop();
        Steps.define(loop, 0, Steps.WAIT, 1, 1, Steps.FRAME, 1, 0);
        Steps.define(loop, 1, Steps.NOTE, 1, 0);
        Steps.runOnce(loop, 0, 0);
        loop.advance(16);
        check.log("advance runs no function", loop);
        check.same("its task waits", loop.count(1), 1);
        check.same("its frame waits", loop.count(4), 1);
    }

    private static void putsOneTaskOnly(Check check) {
        PromiseLoop loop = new PromiseLoop();
        Steps.define(loop, 0, Steps.EVERY, 1, 2);
        Steps.runOnce(loop, 0, 0);
        loop.advance(100);
        loop.advance(100);
        check.same("a repeating timer waits with one task", loop.count(1), 1);
        loop.turn();
        check.same("and is due from when it was run", loop.due(1), 202);
    }

    private static void refusedOnesSetNothing(Check check) {
        PromiseLoop loop = new PromiseLoop();
        Steps.define(loop, 0, Steps.WAIT, 1, 1, Steps.FRAME, 1, 0);
        loop.advance(15);
        Steps.runOnce(loop, 0, 0);
        int[] wrong = {0, -1, 101, Integer.MIN_VALUE, Integer.MAX_VALUE};
        for (int n : wrong) {
            check.illegalArgument("advance(" + n + ")", () -> loop.advance(n));
        }
        check.same("the time", loop.time(), 15);
        check.same("no timer is reached", loop.due(1), 16);
        check.same("no task is put", loop.count(1), 0);
        check.same("no frame is due", loop.turn(), 0);
        check.same("what was asked for waits", loop.count(4), 1);
        loop.advance(1);
        check.same("the timer and the frame", loop.turn(), 2);
    }

    /** The time before is not among those that the clock reaches, the time then is. */
    private static void dueBetweenAndAtTheEnds(Check check) {
        int[] delays = {99, 100, 101};
        int[] due = {-2, -2, 101};
        for (int i = 0; i < delays.length; i++) {
            PromiseLoop loop = new PromiseLoop();
            Steps.define(loop, 0, Steps.WAIT, 1, delays[i]);
            Steps.runOnce(loop, 0, 0);
            loop.advance(100);
            check.same("delay " + delays[i], loop.due(1), due[i]);
        }
    }
}
