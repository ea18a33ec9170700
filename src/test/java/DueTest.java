/** Promise 14: due. */
public final class DueTest {
    public static void main(String[] args) {
        Check check = new Check("DueTest");
        numbers(check);
        delays(check);
        whileItWaits(check);
        levelsOfChains(check);
        levelsOfRepeating(check);
        levelsElsewhere(check);
        cancelEdges(check);
        goneTimersTask(check);
        numbersAreNotUsedAgain(check);
        edgesOfRepeating(check);
        levelsOfJobsAndFrames(check);
        levelBehindATimerThatFails(check);
        levelsBehindAnotherTimer(check);
        levelsFromEachOrigin(check);
        levelsByEachWay(check);
        check.end();
    }

    private static void numbers(Check check) {
        PromiseLoop loop = new PromiseLoop();
        check.same("due(0) with every place free", loop.due(0), -1);
        Steps.define(loop, 0, Steps.WAIT, 1, 9, Steps.EVERY, 1, 8);
        loop.advance(2);
        Steps.runOnce(loop, 0, 0);
        check.same("due(1)", loop.due(1), 11);
        check.same("due(2)", loop.due(2), 10);
        check.same("due(3)", loop.due(3), -1);
        check.same("due(0)", loop.due(0), -1);
        check.same("due(-1)", loop.due(-1), -1);
        check.same("due(largest)", loop.due(Integer.MAX_VALUE), -1);
        check.same("due(least)", loop.due(Integer.MIN_VALUE), -1);
    }

    private static void delays(Check check) {
        PromiseLoop loop = new PromiseLoop();
        Steps.define(loop, 0, Steps.WAIT, 1, 0, Steps.WAIT, 1, 1, Steps.WAIT, 1, 2,
                Steps.EVERY, 1, 0, Steps.WAIT, 1, 200);
        Steps.runOnce(loop, 0, 0);
        int[] due = {1, 1, 2, 1, 200};
        for (int t = 1; t <= due.length; t++) {
            check.same("due(" + t + ")", loop.due(t), due[t - 1]);
        }
    }

    private static void whileItWaits(Check check) {
        PromiseLoop loop = new PromiseLoop();
        Steps.define(loop, 0, Steps.WAIT, 2, 5, Steps.EVERY, 2, 5);
        Steps.runOnce(loop, 0, 0);
        loop.advance(4);
        check.same("one before", loop.due(1), 5);
        loop.advance(1);
        check.same("its task waits", loop.due(1), -2);
        check.same("a repeating one's too", loop.due(2), -2);
        loop.turn();
        check.same("gone", loop.due(1), -1);
        loop.advance(3);
        loop.turn();
        check.same("again, from the time of its run", loop.due(2), 13);
        cancelled(check, loop);
    }

    private static void cancelled(Check check, PromiseLoop loop) {
        Steps.define(loop, 1, Steps.CANCEL, 2, 0, Steps.CANCEL, 2, 0, Steps.CANCEL, 0, 0,
                Steps.CANCEL, -1, 0);
        loop.advance(5);
        Steps.runOnce(loop, 1, 0);
        check.same("cancelled while its task waits", loop.due(2), -1);
        check.same("timers there", loop.count(3), 0);
        check.same("the task is there still", loop.count(1), 1);
    }

    /** Each timer is made in the run of the one before. */
    private static void levelsOfChains(Check check) {
        for (int delay = 0; delay <= 5; delay++) {
            PromiseLoop loop = new PromiseLoop();
            Steps.define(loop, 0, Steps.CALL, 1, 0);
            Steps.define(loop, 1, Steps.TRY, 2, 3);
            Steps.define(loop, 2, Steps.FAIL, 0, 0);
            Steps.define(loop, 3, Steps.WAIT, 0, delay);
            Steps.runOnce(loop, 0, 0);
            for (int level = 1; level <= 8; level++) {
                int counted = level > 5 ? Math.max(delay, 4) : Math.max(delay, 1);
                String what = "delay " + delay + " at level " + level;
                check.same(what, loop.due(level) - loop.time(), counted);
                loop.advance(counted);
                loop.turn();
            }
        }
    }

    private static void levelsOfRepeating(Check check) {
        PromiseLoop loop = new PromiseLoop();
        Steps.define(loop, 0, Steps.EVERY, 1, 3);
        Steps.define(loop, 1, Steps.WAIT, 2, 0);
        Steps.runOnce(loop, 0, 0);
        for (int level = 1; level <= 7; level++) {
            int counted = level > 5 ? 4 : 3;
            check.same("repeating, level " + level, loop.due(1) - loop.time(), counted);
            loop.advance(counted);
            loop.turn();
            int inner = level + 1 > 5 ? 4 : 1;
            check.same("made by it", loop.due(level + 1) - loop.time(), inner);
            Steps.define(loop, 3, Steps.CANCEL, level + 1, 0);
            Steps.runOnce(loop, 3, 0);
        }
    }

    /** Microtasks and tasks that a timer's function puts are not runs of that function. */
    private static void levelsElsewhere(Check check) {
        PromiseLoop loop = new PromiseLoop();
        Steps.define(loop, 0, Steps.WAIT, 1, 1);
        Steps.define(loop, 1, Steps.MICRO, 0, 0);
        Steps.runOnce(loop, 0, 0);
        for (int t = 1; t <= 8; t++) {
            check.same("made by a microtask", loop.due(t) - loop.time(), 1);
            loop.advance(1);
            loop.turn();
        }
        PromiseLoop posts = new PromiseLoop();
        Steps.define(posts, 0, Steps.WAIT, 1, 1);
        Steps.define(posts, 1, Steps.POST, 0, 0);
        Steps.runOnce(posts, 0, 0);
        for (int t = 1; t <= 8; t++) {
            check.same("made by a task", posts.due(t) - posts.time(), 1);
            posts.advance(1);
            posts.turn();
            posts.turn();
        }
    }

    /** CANCEL of a number that no timer has, or none yet, or none any more, does nothing. */
    private static void cancelEdges(Check check) {
        PromiseLoop loop = new PromiseLoop();
        Steps.define(loop, 0, Steps.CANCEL, 1, 0, Steps.WAIT, 1, 3, Steps.CANCEL, 2, 0,
                Steps.EVERY, 1, 3, Steps.CANCEL, 0, 0, Steps.NOTE, 1, 0);
        Steps.runOnce(loop, 0, 0);
        check.log("the run goes on", loop, 1);
        check.same("timer 1 came later", loop.due(1), 3);
        check.same("timer 2 too", loop.due(2), 3);
        Steps.define(loop, 0, Steps.CANCEL, -999, 0, Steps.CANCEL, 999, 0, Steps.CANCEL, -1, 0,
                Steps.CANCEL, 3, 0, Steps.CANCEL, 1, 0, Steps.CANCEL, 1, 0);
        Steps.runOnce(loop, 0, 0);
        check.same("timers", loop.count(3), 1);
        check.same("timer 1", loop.due(1), -1);
        check.same("timer 2", loop.due(2), 3);
        loop.advance(3);
        check.same("no task of timer 1", loop.count(1), 1);
        check.reports("no failure", loop);
        cancelByItself(check);
    }

    /** One that does not repeat is gone when its function begins. */
    private static void cancelByItself(Check check) {
        PromiseLoop loop = new PromiseLoop();
        Steps.define(loop, 0, Steps.WAIT, 1, 3);
        Steps.define(loop, 1, Steps.WAIT, 2, 5, Steps.CANCEL, 1, 0);
        Steps.runOnce(loop, 0, 0);
        loop.advance(3);
        loop.turn();
        check.same("timers", loop.count(3), 1);
        check.same("the one that it made, in its place", loop.due(2), 8);
    }

    /** It is done without running anything, and is the task of its turn. */
    private static void goneTimersTask(Check check) {
        PromiseLoop loop = new PromiseLoop();
        Steps.define(loop, 0, Steps.EVERY, 1, 2, Steps.WAIT, 1, 2);
        Steps.define(loop, 1, Steps.NOTE, 1, 0);
        Steps.define(loop, 2, Steps.CANCEL, 1, 0, Steps.CANCEL, 2, 0, Steps.WAIT, 1, 9);
        Steps.runOnce(loop, 0, 0);
        loop.advance(2);
        Steps.runOnce(loop, 2, 0);
        loop.post(2, 1, 0);
        check.same("two tasks of timers that are gone, and one", loop.count(1), 3);
        check.same("the first begins no run", loop.turn(), 0);
        check.same("it was the turn's task", loop.count(1), 2);
        check.same("the second", loop.turn(), 0);
        check.log("nothing was run", loop);
        check.same("the one behind them", loop.turn(), 1);
        check.log("was run", loop, 1);
        check.same("a repeating one does not come back", loop.due(1), -1);
        check.same("the timer in its place has no task", loop.due(3), 11);
    }

    private static void numbersAreNotUsedAgain(Check check) {
        PromiseLoop loop = new PromiseLoop();
        Steps.define(loop, 0, Steps.WAIT, 9, 1);
        for (int t = 1; t <= 30; t++) {
            Steps.runOnce(loop, 0, 0);
            check.same("due(" + t + ")", loop.due(t), t);
            check.same("the next", loop.due(t + 1), -1);
            loop.advance(1);
            check.same("its task waits", loop.due(t), -2);
            loop.turn();
            check.same("gone", loop.due(t), -1);
        }
    }

    private static void edgesOfRepeating(Check check) {
        int[] delays = {0, 1, 3, 4, 5, 200};
        int[] low = {1, 1, 3, 4, 5, 200};
        int[] high = {4, 4, 4, 4, 5, 200};
        for (int i = 0; i < delays.length; i++) {
            PromiseLoop loop = new PromiseLoop();
            Steps.define(loop, 0, Steps.EVERY, 1, delays[i]);
            Steps.runOnce(loop, 0, 0);
            for (int level = 1; level <= 7; level++) {
                int counted = level > 5 ? high[i] : low[i];
                String what = "every " + delays[i] + " at level " + level;
                check.same(what, loop.due(1) - loop.time(), counted);
                loop.advance(Math.min(counted, 100));
                if (counted > 100) {
                    check.same(what + ", half way", loop.due(1) - loop.time(), 100);
                    loop.advance(counted - 100);
                }
                check.same(what + ", reached", loop.due(1), -2);
                loop.turn();
            }
        }
    }

    /** A job or a function for a frame that a timer's function asks for is not a run of it. */
    private static void levelsOfJobsAndFrames(Check check) {
        PromiseLoop jobs = new PromiseLoop();
        Steps.define(jobs, 0, Steps.WAIT, 1, 1);
        Steps.define(jobs, 1, Steps.MAKE, 0, 0, Steps.SETTLE, 0, 0, Steps.THEN, 0, Steps.on(0, 0));
        Steps.runOnce(jobs, 0, 0);
        PromiseLoop frames = new PromiseLoop();
        Steps.define(frames, 0, Steps.WAIT, 1, 1);
        Steps.define(frames, 1, Steps.FRAME, 0, 0);
        Steps.runOnce(frames, 0, 0);
        for (int t = 1; t <= 8; t++) {
            check.same("made by a job", jobs.due(t) - jobs.time(), 1);
            jobs.advance(1);
            jobs.turn();
            check.same("made in a frame", frames.due(t) - frames.time(), 1);
            frames.advance(16);
            frames.turn();
        }
    }

    private static void levelBehindATimerThatFails(Check check) {
        PromiseLoop loop = new PromiseLoop();
        Steps.define(loop, 0, Steps.EVERY, 1, 1);
        Steps.define(loop, 1, Steps.FAIL, 1, 0);
        Steps.define(loop, 2, Steps.WAIT, 9, 1);
        Steps.runOnce(loop, 0, 0);
        for (int level = 1; level <= 7; level++) {
            loop.advance(level > 5 ? 4 : 1);
            loop.turn();
            check.same("its level goes up even so", loop.due(1) - loop.time(), level < 5 ? 1 : 4);
        }
        Steps.runOnce(loop, 2, 0);
        check.same("a timer that a task makes then", loop.due(2) - loop.time(), 1);
    }

    /** The chain that a task begins anew begins with level 1, whatever was run before. */
    private static void levelsBehindAnotherTimer(Check check) {
        PromiseLoop loop = new PromiseLoop();
        Steps.define(loop, 0, Steps.WAIT, 0, 1);
        int timer = 1;
        for (int length = 1; length <= 7; length++) {
            Steps.define(loop, 1, Steps.CANCEL, timer - 1, 0, Steps.WAIT, 0, 1);
            Steps.runOnce(loop, 1, 0);
            for (int level = 1; level <= length; level++) {
                int counted = level > 5 ? 4 : 1;
                String what = "level " + level + " of chain " + length;
                check.same(what, loop.due(timer) - loop.time(), counted);
                loop.advance(counted);
                loop.turn();
                timer++;
            }
            timer++;
        }
    }

    /**
     * Function 2 lets function 0 be run, which makes the first timer of a chain: its level is 1
     * wherever it is made, the task of function 2 being that of a timer or not.
     */
    private static void levelsFromEachOrigin(Check check) {
        int[][] origins = {
            {Steps.POST, 0, 0},
            {Steps.MICRO, 0, 0},
            {Steps.FRAME, 0, 0},
            {Steps.MAKE, 0, 0, Steps.SETTLE, 0, 0, Steps.THEN, 0, Steps.on(0, 10)},
            {Steps.MAKE, 0, 0, Steps.SETTLE, 0, 1, Steps.THEN, 0, Steps.on(10, 0)}};
        for (int[] origin : origins) {
            PromiseLoop loop = new PromiseLoop();
            Steps.define(loop, 0, Steps.WAIT, 1, 1);
            Steps.define(loop, 1, Steps.WAIT, 1, 1);
            Steps.define(loop, 2, origin);
            loop.advance(15);
            loop.post(1, 2, 0);
            loop.advance(1);
            loop.turn();
            loop.turn();
            chain(check, "from code " + origin[0], loop, 1);

            Steps.define(loop, 4, Steps.CANCEL, 8, 0, Steps.WAIT, 2, 1);
            Steps.runOnce(loop, 4, 0);
            loop.advance(16);
            loop.turn();
            loop.turn();
            chain(check, "from a timer's code " + origin[0], loop, 10);
        }
    }

    /** In the run of a timer's function, and in what it runs by each way there is. */
    private static void levelsByEachWay(Check check) {
        int[][] ways = {{Steps.WAIT, 1, 1}, {Steps.CALL, 3, 0}, {Steps.TRY, 3, 9},
            {Steps.TRY, 4, 3}, {Steps.CALL, 5, 0}, {Steps.TRY, 5, 9}};
        for (int[] way : ways) {
            PromiseLoop loop = new PromiseLoop();
            Steps.define(loop, 0, Steps.WAIT, 1, 1);
            Steps.define(loop, 1, way);
            Steps.define(loop, 3, Steps.WAIT, 1, 1);
            Steps.define(loop, 4, Steps.FAIL, 1, 0);
            Steps.define(loop, 5, Steps.TRY, 4, 3);
            Steps.runOnce(loop, 0, 0);
            chain(check, "by code " + way[0] + " " + way[1], loop, 1);
        }
    }

    /** From this timer on, which is of level 1, each of seven makes the next with a delay of 1. */
    private static void chain(Check check, String what, PromiseLoop loop, int first) {
        for (int level = 1; level <= 7; level++) {
            int counted = level > 5 ? 4 : 1;
            int due = loop.due(first + level - 1);
            check.same(what + ", level " + level, due - loop.time(), counted);
            loop.advance(counted);
            loop.turn();
        }
    }
}
