/** Promise 5: prefer. */
public final class PreferTest {
    public static void main(String[] args) {
        Check check = new Check("PreferTest");
        order(check, 0, 1, 2, 11, 12, 21, 22);
        order(check, 1, 11, 12, 1, 2, 21, 22);
        order(check, 2, 21, 22, 1, 2, 11, 12);
        changes(check);
        emptySources(check);
        wrongInputs(check);
        check.end();
    }

    private static PromiseLoop filled() {
        PromiseLoop loop = new PromiseLoop();
        Steps.define(loop, 0, Steps.NOTE, 0, 1);
        for (int source = 2; source >= 0; source--) {
            loop.post(source, 0, source * 10 + 1);
            loop.post(source, 0, source * 10 + 2);
        }
        return loop;
    }

    private static void order(Check check, int source, int... due) {
        PromiseLoop loop = filled();
        loop.prefer(source);
        for (int i = 0; i < 6; i++) {
            loop.turn();
        }
        check.log("source " + source + " preferred", loop, due);
    }

    private static void changes(Check check) {
        PromiseLoop loop = filled();
        loop.turn();
        loop.prefer(2);
        loop.turn();
        loop.prefer(1);
        loop.turn();
        loop.prefer(0);
        loop.turn();
        loop.turn();
        loop.turn();
        check.log("preferred anew before each turn", loop, 1, 21, 11, 2, 12, 22);
    }

    /** The preferred source has none: the least that has some, in each of the ways to be it. */
    private static void emptySources(Check check) {
        int[][] rows = {{2, 0, 0}, {2, 1, 1}, {1, 0, 0}, {1, 2, 2}, {0, 1, 1}, {0, 2, 2}};
        for (int[] row : rows) {
            PromiseLoop loop = new PromiseLoop();
            Steps.define(loop, 0, Steps.NOTE, 0, 1);
            for (int source = 2; source >= row[1]; source--) {
                if (source != row[0]) {
                    loop.post(source, 0, source);
                }
            }
            loop.prefer(row[0]);
            check.same("one task", loop.turn(), 1);
            check.log("source " + row[0] + " preferred, with none", loop, row[2]);
        }
        PromiseLoop loop = new PromiseLoop();
        loop.prefer(2);
        check.same("no source has one", loop.turn(), 0);
    }

    private static void wrongInputs(Check check) {
        PromiseLoop loop = filled();
        loop.prefer(2);
        check.illegalArgument("prefer(-1)", () -> loop.prefer(-1));
        check.illegalArgument("prefer(3)", () -> loop.prefer(3));
        check.illegalArgument("prefer(least)", () -> loop.prefer(Integer.MIN_VALUE));
        check.illegalArgument("prefer(largest)", () -> loop.prefer(Integer.MAX_VALUE));
        loop.turn();
        check.log("what was preferred before", loop, 21);
    }
}
