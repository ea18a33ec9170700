/** Promise 14: due. */
public final class DueTest {
    public static void main(String[] args) {
        Check check = new Check("DueTest");
        numbers(check);
        delays(check);
        whileItWaits(check);
        levelsOfChains(check);
        levelsOfRepeating(check);
        levelsElsewhere(check);
        check.end();
    }

    private static void numbers(Check check) {
        PromiseLoop loop = new PromiseLoop();
        check.same("due(0) with every place free", loop.due(0), -1);
        Steps.define(loop, 0, Steps.WAIT, 1, 9, Steps.EVERY, 1, 8);
        loop.advance(2);
        Steps.runOnce(loop, 0, 0);
        check.same("due(1)", loop.due(1), 11);
        check.same("due(2)", loop.due(2), 10);
        check.same("due(3)", loop.due(3), -1);
        check.same("due(0)", loop.due(0), -1);
        check.same("due(-1)", loop.due(-1), -1);
        check.same("due(largest)", loop.due(Integer.MAX_VALUE), -1);
        check.same("due(least)", loop.due(Integer.MIN_VALUE), -1);
    }

    private static void delays(Check check) {
        PromiseLoop loop = new PromiseLoop();
        Steps.define(loop, 0, Steps.WAIT, 1, 0, Steps.WAIT, 1, 1, Steps.WAIT, 1, 2,
                Steps.EVERY, 1, 0, Steps.WAIT, 1, 200);
        Steps.runOnce(loop, 0, 0);
        int[] due = {1, 1, 2, 1, 200};
        for (int t = 1; t <= due.length; t++) {
            check.same("due(" + t + ")", loop.due(t), due[t - 1]);
        }
    }

    private static void whileItWaits(Check check) {
        PromiseLoop loop = new PromiseLoop();
        Steps.define(loop, 0, Steps.WAIT, 2, 5, Steps.EVERY, 2, 5);
        Steps.runOnce(loop, 0, 0);
        loop.advance(4);
        check.same("one before", loop.due(1), 5);
        loop.advance(1);
        check.same("its task waits", loop.due(1), -2);
        check.same("a repeating one's too", loop.due(2), -2);
        loop.turn();
        check.same("gone", loop.due(1), -1);
        loop.advance(3);
        loop.turn();
        check.same("again, from the time of its run", loop.due(2), 13);
        cancelled(check, loop);
    }

    private static void cancelled(Check check, PromiseLoop loop) {
        Steps.define(loop, 1, Steps.CANCEL, 2, 0, Steps.CANCEL, 2, 0, Steps.CANCEL, 0, 0,
                Steps.CANCEL, -1, 0);
        loop.advance(5);
        Steps.runOnce(loop, 1, 0);
        check.same("cancelled while its task waits", loop.due(2), -1);
        check.same("timers there", loop.count(3), 0);
        check.same("the task is there still", loop.count(1), 1);
    }

    /** Each timer is made in the run of the one before. */
    private static void levelsOfChains(Check check) {
        for (int delay = 0; delay <= 5; delay++) {
            PromiseLoop loop = new PromiseLoop();
            Steps.define(loop, 0, Steps.CALL, 1, 0);
            Steps.define(loop, 1, Steps.TRY, 2, 3);
            Steps.define(loop, 2, Steps.FAIL, 0, 0);
            Steps.define(loop, 3, Steps.WAIT, 0, delay);
            Steps.runOnce(loop, 0, 0);
            for (int level = 1; level <= 8; level++) {
                int counted = level > 5 ? Math.max(delay, 4) : Math.max(delay, 1);
                String what = "delay " + delay + " at level " + level;
                check.same(what, loop.due(level) - loop.time(), counted);
                loop.advance(counted);
                loop.turn();
            }
        }
    }

    private static void levelsOfRepeating(Check check) {
        PromiseLoop loop = new PromiseLoop();
        Steps.define(loop, 0, Steps.EVERY, 1, 3);
        Steps.define(loop, 1, Steps.WAIT, 2, 0);
        Steps.runOnce(loop, 0, 0);
        for (int level = 1; level <= 7; level++) {
            int counted = level > 5 ? 4 : 3;
            check.same("repeating, level " + level, loop.due(1) - loop.time(), counted);
            loop.advance(counted);
            loop.turn();
            int inner = level + 1 > 5 ? 4 : 1;
            check.same("made by it", loop.due(level + 1) - loop.time(), inner);
            Steps.define(loop, 3, Steps.CANCEL, level + 1, 0);
            Steps.runOnce(loop, 3, 0);
        }
    }

    /** Microtasks and tasks that a timer's function puts are not runs of that function. */
    private static void levelsElsewhere(Check check) {
        PromiseLoop loop = new PromiseLoop();
        Steps.define(loop, 0, Steps.WAIT, 1, 1);
        Steps.define(loop, 1, Steps.MICRO, 0, 0);
        Steps.runOnce(loop, 0, 0);
        for (int t = 1; t <= 8; t++) {
            check.same("made by a microtask", loop.due(t) - loop.time(), 1);
            loop.advance(1);
            loop.turn();
        }
        PromiseLoop posts = new PromiseLoop();
        Steps.define(posts, 0, Steps.WAIT, 1, 1);
        Steps.define(posts, 1, Steps.POST, 0, 0);
        Steps.runOnce(posts, 0, 0);
        for (int t = 1; t <= 8; t++) {
            check.same("made by a task", posts.due(t) - posts.time(), 1);
            posts.advance(1);
            posts.turn();
            posts.turn();
        }
    }
}
