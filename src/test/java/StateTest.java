/** Promise 9: state. */
public final class StateTest {
    private static final int NONE = Steps.NONE;

    public static void main(String[] args) {
        Check check = new Check("StateTest");
        bounds(check);
        settled(check, 0, 5);
        settled(check, 1, 6);
        following(check);
        handled(check);
        check.end();
    }

    private static void bounds(Check check) {
        PromiseLoop loop = new PromiseLoop();
        check.outOfBounds("state(0) of a new object", () -> loop.state(0));
        Steps.define(loop, 0, Steps.MAKE, 0, 0);
        Steps.runOnce(loop, 0, 0);
        check.same("pending", loop.state(0), 0);
        check.outOfBounds("state(1)", () -> loop.state(1));
        check.outOfBounds("state(-1)", () -> loop.state(-1));
        check.outOfBounds("state(40)", () -> loop.state(40));
        check.outOfBounds("state(least)", () -> loop.state(Integer.MIN_VALUE));
        check.outOfBounds("state(largest)", () -> loop.state(Integer.MAX_VALUE));
        for (int i = 1; i < 40; i++) {
            Steps.runOnce(loop, 0, 0);
        }
        check.same("the last promise", loop.state(39), 0);
        check.outOfBounds("state(40) with all made", () -> loop.state(40));
    }

    private static void settled(Check check, int rejects, int due) {
        PromiseLoop loop = new PromiseLoop();
        Steps.define(loop, 0, Steps.MAKE, 0, 0, Steps.SETTLE, 0, rejects);
        Steps.runOnce(loop, 0, 5);
        check.same("settled", loop.state(0), due);
        Steps.define(loop, 0, Steps.THEN, 0, Steps.on(NONE, NONE));
        Steps.runOnce(loop, 0, 0);
        check.same("settled and handled", loop.state(0), due + 8);
        check.same("its THEN", loop.state(1), due);
    }

    private static void following(Check check) {
        PromiseLoop loop = new PromiseLoop();
        Steps.define(loop, 0, Steps.MAKE, 0, 0, Steps.MAKE, 1, 0, Steps.FOLLOW, 0, 1);
        Steps.runOnce(loop, 0, 0);
        check.same("pending but resolved", loop.state(0), 4);
        check.same("handled by what follows it", loop.state(1), 8);
        Steps.define(loop, 0, Steps.SETTLE, 1, 0);
        Steps.runOnce(loop, 0, 3);
        check.same("settled as the other", loop.state(0), 5);
        check.same("the other", loop.state(1), 13);
    }

    private static void handled(Check check) {
        PromiseLoop loop = new PromiseLoop();
        Steps.define(loop, 0, Steps.MAKE, 0, 0, Steps.THEN, 0, Steps.on(NONE, NONE));
        Steps.runOnce(loop, 0, 0);
        check.same("pending and handled", loop.state(0), 8);
        check.same("the new promise", loop.state(1), 0);
    }
}
