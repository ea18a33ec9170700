import java.util.Arrays;

/** Promises 6, 7 and 11 for frames: when they are due, what they take, and what stays. */
public final class FramesTest {
    public static void main(String[] args) {
        Check check = new Check("FramesTest");
        dueAtMultiples(check);
        dueWithNoneAskedFor(check);
        dueUntilATurn(check);
        cutAmongFrames(check);
        cutBehindTheLast(check);
        cutBeforeThem(check);
        manyFrames(check);
        atMostEight(check);
        takenOnesCount(check);
        everyTime(check);
        jumpsToAndOverMultiples(check);
        notRunYetAreAmongTheEight(check);
        askedForInACheckpoint(check);
        check.end();
    }

    private static PromiseLoop withOneAskedFor() {
        PromiseLoop loop = new PromiseLoop();
        Steps.define(loop, 0, Steps.FRAME, 1, 0);
        Steps.define(loop, 1, Steps.NOTE, 0, 1);
        Steps.runOnce(loop, 0, 0);
        return loop;
    }

    private static void dueAtMultiples(Check check) {
        PromiseLoop loop = withOneAskedFor();
        loop.advance(15);
        check.same("at 15", loop.turn(), 0);
        loop.advance(1);
        check.same("at 16", loop.turn(), 1);
        Steps.runOnce(loop, 0, 0);
        loop.advance(15);
        check.same("at 31", loop.turn(), 0);
        loop.advance(2);
        check.same("at 33, behind 32", loop.turn(), 1);
        Steps.runOnce(loop, 0, 0);
        check.same("at 33 still", loop.turn(), 0);
        loop.advance(100);
        check.same("at 133, behind many", loop.turn(), 1);
        Steps.runOnce(loop, 0, 0);
        check.same("for one frame only", loop.turn(), 0);
        check.log("with the time", loop, 16, 33, 133);
    }

    private static void dueWithNoneAskedFor(Check check) {
        PromiseLoop loop = new PromiseLoop();
        Steps.define(loop, 0, Steps.FRAME, 1, 0);
        loop.advance(16);
        check.same("a frame with none", loop.turn(), 0);
        check.same("it is over", Steps.runOnce(loop, 0, 0), 1);
        check.same("so this one waits", loop.count(4), 1);
    }

    private static void dueUntilATurn(Check check) {
        PromiseLoop loop = new PromiseLoop();
        Steps.define(loop, 0, Steps.FRAME, 1, 0);
        Steps.define(loop, 1, Steps.NOTE, 0, 1);
        loop.advance(16);
        loop.advance(9);
        check.same("asked for by the task of the turn", Steps.runOnce(loop, 0, 0), 2);
        check.log("with the time of the turn", loop, 25);
    }

    private static void cutAmongFrames(Check check) {
        PromiseLoop loop = new PromiseLoop();
        Steps.define(loop, 0, Steps.FRAME, 1, 0, Steps.FRAME, 2, 0, Steps.FRAME, 3, 0);
        Steps.define(loop, 1, Steps.NOTE, 1, 0, Steps.MICRO, 4, 0, Steps.FRAME, 5, 0);
        Steps.define(loop, 2, Steps.NOTE, 2, 0);
        Steps.define(loop, 3, Steps.NOTE, 3, 0);
        Steps.define(loop, 4, Steps.MICRO, 4, 0);
        Steps.define(loop, 5, Steps.NOTE, 0, 1);
        Steps.runOnce(loop, 0, 0);
        loop.advance(16);
        check.same("one frame's function and 49 microtasks", loop.turn(), 50);
        check.same("two not run yet, one asked for since", loop.count(4), 3);
        check.log("run", loop, 1);
        loop.clear(4);
        loop.advance(1);
        check.same("the microtask and all three", loop.turn(), 4);
        check.log("those not run yet in front", loop, 1, 2, 3, 17);
        check.same("none is left", loop.count(4), 0);
    }

    /** The document: when the last one was run, frames are not due, whatever follows it. */
    private static void cutBehindTheLast(Check check) {
        PromiseLoop loop = new PromiseLoop();
        Steps.define(loop, 0, Steps.FRAME, 1, 0);
        Steps.define(loop, 1, Steps.MICRO, 4, 0, Steps.FRAME, 5, 0);
        Steps.define(loop, 4, Steps.MICRO, 4, 0);
        Steps.runOnce(loop, 0, 0);
        loop.advance(16);
        check.same("the last function and 49 microtasks", loop.turn(), 50);
        loop.clear(4);
        check.same("the microtask and no frame", loop.turn(), 1);
        check.same("what was asked for waits", loop.count(4), 1);
    }

    private static void cutBeforeThem(Check check) {
        PromiseLoop loop = withOneAskedFor();
        Steps.define(loop, 0, Steps.MICRO, 0, 0);
        loop.advance(16);
        check.same("the task and 49 microtasks", Steps.runOnce(loop, 0, 0), 50);
        check.log("the frame was not reached", loop);
        loop.clear(0);
        check.same("the microtask and the frame", loop.turn(), 2);
        check.log("frames were due still", loop, 16);
    }

    private static void manyFrames(Check check) {
        PromiseLoop loop = new PromiseLoop();
        Steps.define(loop, 0, Steps.FRAME, 1, 0, Steps.FRAME, 2, 0, Steps.FRAME, 3, 0);
        Steps.define(loop, 1, Steps.NOTE, 1, 0);
        Steps.define(loop, 2, Steps.NOTE, 2, 0);
        Steps.define(loop, 3, Steps.NOTE, 3, 0);
        for (int i = 0; i < 12; i++) {
            Steps.runOnce(loop, 0, 0);
            loop.advance(16);
            loop.turn();
        }
        for (int i = 0; i < 36; i++) {
            check.same("logged(" + i + ")", loop.logged(i), 1 + i % 3);
        }
    }

    private static void askForSix(PromiseLoop loop, int f, int asked) {
        loop.clear(f);
        for (int i = 0; i < 6; i++) {
            loop.step(f, Steps.FRAME, asked, 0);
        }
    }

    private static void atMostEight(Check check) {
        PromiseLoop loop = new PromiseLoop();
        askForSix(loop, 0, 9);
        Steps.runOnce(loop, 0, 0);
        Steps.runOnce(loop, 0, 0);
        check.same("asked for", loop.count(4), 8);
        check.reports("the ninth", loop, 9998);
        loop.advance(16);
        check.same("all eight", loop.turn(), 8);
        check.same("none is left", loop.count(4), 0);
    }

    /** Each of eight functions finds seven or fewer that wait, until those asked for are eight. */
    private static void takenOnesCount(Check check) {
        PromiseLoop loop = new PromiseLoop();
        askForSix(loop, 0, 1);
        Steps.define(loop, 1, Steps.FRAME, 2, 0, Steps.FRAME, 2, 0);
        Steps.runOnce(loop, 0, 0);
        Steps.runOnce(loop, 0, 0);
        loop.advance(16);
        check.same("eight functions", loop.turn(), 8);
        int[] due = new int[9];
        Arrays.fill(due, 9998);
        check.reports("each asks for one, and for one too many", loop, due);
        check.same("asked for", loop.count(4), 8);
    }

    private static void everyTime(Check check) {
        PromiseLoop loop = withOneAskedFor();
        Steps.define(loop, 1, Steps.FRAME, 1, 0);
        for (int time = 1; time <= 64; time++) {
            loop.advance(1);
            check.same("at " + time, loop.turn(), time % 16 == 0 ? 1 : 0);
        }
    }

    /** A row: the time before, how far the clock is set, whether frames are due then. */
    private static void jumpsToAndOverMultiples(Check check) {
        int[][] rows = {{1, 14, 0}, {1, 15, 1}, {1, 16, 1}, {15, 1, 1}, {15, 2, 1}, {16, 15, 0},
            {16, 16, 1}, {17, 14, 0}, {17, 15, 1}, {31, 1, 1}, {96, 15, 0}, {96, 100, 1}};
        for (int[] row : rows) {
            PromiseLoop loop = new PromiseLoop();
            loop.advance(row[0]);
            loop.turn();
            Steps.define(loop, 0, Steps.FRAME, 1, 0);
            check.same("one is asked for", Steps.runOnce(loop, 0, 0), 1);
            loop.advance(row[1]);
            check.same("from " + row[0] + " by " + row[1], loop.turn(), row[2]);
        }
    }

    private static void notRunYetAreAmongTheEight(Check check) {
        PromiseLoop loop = new PromiseLoop();
        Steps.define(loop, 0, Steps.FRAME, 1, 0, Steps.FRAME, 2, 0, Steps.FRAME, 3, 0);
        Steps.define(loop, 1, Steps.MICRO, 4, 0);
        Steps.define(loop, 4, Steps.MICRO, 4, 0);
        Steps.runOnce(loop, 0, 0);
        loop.advance(16);
        check.same("cut behind the first", loop.turn(), 50);
        check.same("two were not run yet", loop.count(4), 2);
        loop.clear(4);
        askForSix(loop, 5, 9);
        Steps.define(loop, 6, Steps.CALL, 5, 0, Steps.NOTE, 1, 0, Steps.FRAME, 9, 0,
                Steps.NOTE, 2, 0);
        check.same("the microtask, the task and eight", Steps.runOnce(loop, 6, 0), 10);
        check.log("six found room", loop, 1);
        check.reports("a seventh did not", loop, 9998);
    }

    /** Asked for by a microtask of the checkpoint before the frame: for this one; after it: not. */
    private static void askedForInACheckpoint(Check check) {
        PromiseLoop loop = new PromiseLoop();
        Steps.define(loop, 0, Steps.MICRO, 1, 0);
        Steps.define(loop, 1, Steps.FRAME, 2, 0);
        Steps.define(loop, 2, Steps.NOTE, 0, 1, Steps.MICRO, 1, 0);
        loop.advance(32);
        check.same("the task, the microtask, the frame, its microtask",
                Steps.runOnce(loop, 0, 0), 4);
        check.log("once", loop, 32);
        check.same("asked for since", loop.count(4), 1);
        check.same("frames are not due", loop.turn(), 0);
        loop.advance(15);
        check.same("nor at 47", loop.turn(), 0);
        loop.advance(1);
        check.same("but at 48", loop.turn(), 2);
    }
}
