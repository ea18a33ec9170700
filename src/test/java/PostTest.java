/** Promise 4: post. */
public final class PostTest {
    public static void main(String[] args) {
        Check check = new Check("PostTest");
        answersAndOrder(check);
        wrongInputs(check);
        fullQueue(check);
        timerTasksCount(check);
        arguments(check);
        manyTasks(check);
        check.end();
    }

    private static void answersAndOrder(Check check) {
        PromiseLoop loop = new PromiseLoop();
        Steps.define(loop, 9, Steps.NOTE, 0, 1);
        check.same("post of source 2", loop.post(2, 9, 21), 1);
        check.same("post of source 0", loop.post(0, 9, 1), 2);
        check.same("post of source 1", loop.post(1, 9, 11), 3);
        check.same("post of source 0 again", loop.post(0, 9, 2), 4);
        for (int i = 3; i >= 0; i--) {
            check.same("one task a turn", loop.turn(), 1);
            check.same("tasks left", loop.count(1), i);
        }
        check.log("by source, then by order", loop, 1, 2, 11, 21);
    }

    private static void wrongInputs(Check check) {
        PromiseLoop loop = new PromiseLoop();
        check.illegalArgument("source -1", () -> loop.post(-1, 0, 0));
        check.illegalArgument("source 3", () -> loop.post(3, 0, 0));
        check.illegalArgument("function -1", () -> loop.post(0, -1, 0));
        check.illegalArgument("function 10", () -> loop.post(0, 10, 0));
        int[] far = {Integer.MIN_VALUE, Integer.MAX_VALUE};
        for (int n : far) {
            check.illegalArgument("source " + n, () -> loop.post(n, 0, 0));
            check.illegalArgument("function " + n, () -> loop.post(0, n, 0));
        }
        check.same("nothing was put", loop.count(1), 0);
        check.same("so a turn has nothing to do", loop.turn(), 0);
        check.same("the first and last that are allowed", loop.post(0, 0, 0), 1);
        check.same("of both", loop.post(2, 9, 0), 2);
    }

    private static void fullQueue(Check check) {
        PromiseLoop loop = new PromiseLoop();
        Steps.define(loop, 0, Steps.NOTE, 0, 1);
        for (int i = 1; i <= 40; i++) {
            check.same("post " + i, loop.post(i % 3, 0, i), i);
        }
        for (int source = 0; source < 3; source++) {
            int full = source;
            check.illegalState("a 41st task", () -> loop.post(full, 0, 0));
        }
        check.same("refused ones do not wait", loop.count(1), 40);
        check.illegalArgument("a 41st task of a wrong source", () -> loop.post(3, 0, 0));
        check.illegalArgument("a 41st task of a wrong function", () -> loop.post(0, 10, 0));
        loop.turn();
        check.same("one place is free again", loop.post(0, 0, 41), 40);
        check.illegalState("and only one", () -> loop.post(0, 0, 0));
        for (int i = 0; i < 40; i++) {
            loop.turn();
        }
        check.same("all that were put", loop.count(5), 41);
        check.same("the 41st behind all others of source 0", loop.logged(13), 41);
    }

    private static void timerTasksCount(Check check) {
        PromiseLoop loop = new PromiseLoop();
        Steps.define(loop, 0, Steps.WAIT, 1, 1, Steps.WAIT, 1, 1);
        Steps.runOnce(loop, 0, 0);
        for (int i = 0; i < 39; i++) {
            loop.post(0, 1, 0);
        }
        loop.advance(1);
        check.same("tasks of timers are put always", loop.count(1), 41);
        check.illegalState("and count for post", () -> loop.post(2, 1, 0));
        loop.turn();
        check.illegalState("with 40 still", () -> loop.post(2, 1, 0));
        loop.turn();
        check.same("with 39", loop.post(2, 1, 0), 40);
    }

    private static void arguments(Check check) {
        PromiseLoop loop = new PromiseLoop();
        Steps.define(loop, 0, Steps.NOTE, 0, 1, Steps.FAIL, 0, 1);
        Steps.runOnce(loop, 0, Integer.MAX_VALUE);
        Steps.runOnce(loop, 0, Integer.MIN_VALUE);
        check.log("any x", loop, Integer.MAX_VALUE, Integer.MIN_VALUE);
        check.reports("any x", loop, Integer.MAX_VALUE + 10000, Integer.MIN_VALUE + 10000);
    }

    /** Longer than any line of tasks is, so that each place is used again. */
    private static void manyTasks(Check check) {
        PromiseLoop loop = new PromiseLoop();
        Steps.define(loop, 0, Steps.NOTE, 0, 1);
        for (int i = 0; i < 80; i++) {
            loop.post(i % 2 * 2, 0, i);
            loop.post(i % 2 * 2, 0, i);
            loop.turn();
            loop.turn();
        }
        for (int i = 0; i < 160; i++) {
            check.same("logged(" + i + ")", loop.logged(i), i / 2);
        }
    }
}
