/** Promise 1: no steps, empty registers, time 0, nothing waits. */
public final class NewObjectTest {
    public static void main(String[] args) {
        Check check = new Check("NewObjectTest");
        PromiseLoop loop = new PromiseLoop();
        check.same("time()", loop.time(), 0);
        for (int which = 0; which <= 6; which++) {
            check.same("count(" + which + ")", loop.count(which), 0);
        }
        for (int r = 0; r < 8; r++) {
            check.same("register(" + r + ")", loop.register(r), -1);
        }
        check.same("due(1)", loop.due(1), -1);
        check.same("turn()", loop.turn(), 0);
        for (int f = 0; f < 10; f++) {
            check.same("the first step of " + f, loop.step(f, Steps.NOTE, 1, 0), 1);
        }
        objectsDoNotShare(check);
        framesAreNotDue(check);
        check.end();
    }

    private static void objectsDoNotShare(Check check) {
        PromiseLoop used = new PromiseLoop();
        Steps.define(used, 0, Steps.NOTE, 1, 0, Steps.MAKE, 0, 0, Steps.WAIT, 1, 5);
        Steps.runOnce(used, 0, 0);
        used.advance(9);
        PromiseLoop fresh = new PromiseLoop();
        check.same("fresh time()", fresh.time(), 0);
        check.same("fresh register(0)", fresh.register(0), -1);
        check.same("fresh step", fresh.step(0, Steps.NOTE, 1, 0), 1);
        for (int which = 0; which <= 6; which++) {
            check.same("fresh count(" + which + ")", fresh.count(which), 0);
        }
    }

    private static void framesAreNotDue(Check check) {
        PromiseLoop loop = new PromiseLoop();
        Steps.define(loop, 0, Steps.FRAME, 1, 0);
        check.same("a turn at time 0 with a function asked for", Steps.runOnce(loop, 0, 0), 1);
        check.same("count(4)", loop.count(4), 1);
    }
}
