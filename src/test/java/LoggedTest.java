/** Promise 12: logged. */
public final class LoggedTest {
    public static void main(String[] args) {
        Check check = new Check("LoggedTest");
        PromiseLoop loop = new PromiseLoop();
        check.outOfBounds("logged(0) of a new object", () -> loop.logged(0));
        Steps.define(loop, 0, Steps.NOTE, -999, 0, Steps.NOTE, 999, 0, Steps.NOTE, 999, 1,
                Steps.NOTE, 0, 0);
        Steps.runOnce(loop, 0, 123456);
        check.same("logged(0)", loop.logged(0), -999);
        check.same("logged(1)", loop.logged(1), 999);
        check.same("logged(2)", loop.logged(2), 123456);
        check.same("logged(3)", loop.logged(3), 0);
        check.outOfBounds("logged(4)", () -> loop.logged(4));
        check.outOfBounds("logged(-1)", () -> loop.logged(-1));
        check.outOfBounds("logged(largest)", () -> loop.logged(Integer.MAX_VALUE));
        Steps.runOnce(loop, 0, -1);
        check.log("a second run stands behind", loop, -999, 999, 123456, 0, -999, 999, -1, 0);
        edgesOfTheIndex(check);
        check.end();
    }

    /** The last that was logged and those beside it. */
    private static void edgesOfTheIndex(Check check) {
        PromiseLoop loop = new PromiseLoop();
        Steps.define(loop, 0, Steps.NOTE, 1, 0, Steps.NOTE, 0, 1);
        Steps.runOnce(loop, 0, Integer.MIN_VALUE);
        Steps.runOnce(loop, 0, Integer.MAX_VALUE);
        loop.clear(0);
        check.log("a or x", loop, 1, Integer.MIN_VALUE, 1, Integer.MAX_VALUE);
        int[] wrong = {-1, 4, 199, 200, Integer.MIN_VALUE, Integer.MAX_VALUE};
        for (int i : wrong) {
            check.outOfBounds("logged(" + i + ")", () -> loop.logged(i));
        }
    }
}
