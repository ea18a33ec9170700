/** Promise 3: clear. */
public final class ClearTest {
    public static void main(String[] args) {
        Check check = new Check("ClearTest");
        PromiseLoop loop = new PromiseLoop();
        for (int f = 0; f < 10; f++) {
            Steps.define(loop, f, Steps.NOTE, f, 0, Steps.NOTE, 10 + f, 0);
        }
        loop.clear(9);
        loop.clear(0);
        loop.clear(0);
        check.same("a step behind clear(9)", loop.step(9, Steps.NOTE, 1, 0), 1);
        check.same("a step behind clear(0)", loop.step(0, Steps.NOTE, 2, 0), 1);
        check.same("a step of a function not cleared", loop.step(1, Steps.NOTE, 3, 0), 3);
        check.illegalArgument("clear(-1)", () -> loop.clear(-1));
        check.illegalArgument("clear(10)", () -> loop.clear(10));
        check.illegalArgument("clear of the least number", () -> loop.clear(Integer.MIN_VALUE));
        Steps.runOnce(loop, 0, 0);
        check.log("only the new step is left", loop, 2);
        whatWaitsStays(check);
        refusedOnesClearNothing(check);
        fullOneHasRoomAgain(check);
        check.end();
    }

    private static void whatWaitsStays(Check check) {
        PromiseLoop loop = new PromiseLoop();
        Steps.define(loop, 0, Steps.NOTE, 7, 0);
        loop.post(0, 0, 0);
        loop.clear(0);
        check.same("tasks behind clear", loop.count(1), 1);
        check.same("a function without steps is a run", loop.turn(), 1);
        check.log("it did nothing", loop);
    }

    private static void refusedOnesClearNothing(Check check) {
        PromiseLoop loop = new PromiseLoop();
        for (int f = 0; f < 10; f++) {
            loop.step(f, Steps.NOTE, f, 0);
        }
        int[] wrong = {-1, 10, Integer.MIN_VALUE, Integer.MAX_VALUE};
        for (int f : wrong) {
            check.illegalArgument("clear(" + f + ")", () -> loop.clear(f));
        }
        for (int f = 0; f < 10; f++) {
            check.same("the second step of " + f, loop.step(f, Steps.NOTE, f, 0), 2);
        }
    }

    private static void fullOneHasRoomAgain(Check check) {
        PromiseLoop loop = new PromiseLoop();
        for (int round = 0; round < 2; round++) {
            loop.clear(9);
            for (int i = 1; i <= 6; i++) {
                int number = 10 * round + i;
                check.same("step " + i, loop.step(9, Steps.NOTE, number, 0), i);
            }
            check.illegalState("a seventh", () -> loop.step(9, Steps.NOTE, 0, 0));
        }
        Steps.runOnce(loop, 9, 0);
        check.log("the new six", loop, 11, 12, 13, 14, 15, 16);
    }
}
