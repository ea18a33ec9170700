/** Promise 10: value. */
public final class ValueTest {
    public static void main(String[] args) {
        Check check = new Check("ValueTest");
        PromiseLoop loop = new PromiseLoop();
        check.outOfBounds("value(0) of a new object", () -> loop.value(0));
        Steps.define(loop, 0, Steps.MAKE, 0, 0, Steps.MAKE, 1, 0);
        Steps.runOnce(loop, 0, 0);
        check.illegalState("value of a pending one", () -> loop.value(0));
        check.outOfBounds("value(2)", () -> loop.value(2));
        check.outOfBounds("value(-1)", () -> loop.value(-1));

        Steps.define(loop, 0, Steps.SETTLE, 0, 0);
        Steps.define(loop, 1, Steps.SETTLE, 1, 1);
        Steps.runOnce(loop, 0, 1234567);
        check.illegalState("value of the other one", () -> loop.value(1));
        Steps.runOnce(loop, 1, -1234567);
        check.same("fulfilled with", loop.value(0), 1234567);
        check.same("rejected with", loop.value(1), -1234567);
        Steps.runOnce(loop, 0, 1);
        Steps.runOnce(loop, 1, 2);
        check.same("fulfilled once", loop.value(0), 1234567);
        check.same("rejected once", loop.value(1), -1234567);
        resolvedButPending(check);
        bounds(check);
        check.end();
    }

    private static void resolvedButPending(Check check) {
        PromiseLoop loop = new PromiseLoop();
        Steps.define(loop, 0, Steps.MAKE, 0, 0, Steps.MAKE, 1, 0, Steps.FOLLOW, 0, 1,
                Steps.SETTLE, 0, 0);
        Steps.runOnce(loop, 0, 5);
        check.illegalState("value of one that follows a pending one", () -> loop.value(0));
        Steps.define(loop, 0, Steps.SETTLE, 1, 0);
        Steps.runOnce(loop, 0, 8);
        check.same("its value then", loop.value(0), 8);
    }

    private static void bounds(Check check) {
        PromiseLoop loop = new PromiseLoop();
        check.outOfBounds("value(-1) with none", () -> loop.value(-1));
        Steps.define(loop, 0, Steps.MAKE, 0, 0, Steps.SETTLE, 0, 0);
        for (int i = 0; i < 40; i++) {
            check.outOfBounds("value of the next one", () -> loop.value(loop.count(0)));
            Steps.runOnce(loop, 0, 500 + i);
        }
        check.same("the first", loop.value(0), 500);
        check.same("the last", loop.value(39), 539);
        int[] wrong = {-1, 40, Integer.MIN_VALUE, Integer.MAX_VALUE};
        for (int p : wrong) {
            check.outOfBounds("value(" + p + ")", () -> loop.value(p));
        }
    }
}
