/** How a function is run: its result, its failure, CALL and TRY and their limits. */
public final class RunsTest {
    private static final int NONE = Steps.NONE;

    public static void main(String[] args) {
        Check check = new Check("RunsTest");
        failureEndsAtOnce(check);
        tryCatches(check);
        results(check);
        promiseAsResult(check);
        sixDeep(check);
        thirtyCalls(check);
        handlerIsOneToo(check);
        callsAreCountedAnew(check);
        tryIsOneToo(check);
        refusedCallsAreNotCounted(check);
        jobsAndTimersCountAnew(check);
        numbersOfFailure(check);
        sixDeepByTry(check);
        everyStepHandsOn(check);
        sourcesOfPost(check);
        check.end();
    }

    private static void failureEndsAtOnce(Check check) {
        PromiseLoop loop = new PromiseLoop();
        Steps.define(loop, 0, Steps.NOTE, 1, 0, Steps.CALL, 1, 0, Steps.NOTE, 2, 0);
        Steps.define(loop, 1, Steps.NOTE, 3, 0, Steps.FAIL, 5, 1, Steps.NOTE, 4, 0);
        Steps.runOnce(loop, 0, 60);
        check.log("what came before", loop, 1, 3);
        check.reports("the same number", loop, 10060);
    }

    private static void tryCatches(Check check) {
        PromiseLoop loop = new PromiseLoop();
        Steps.define(loop, 0, Steps.TRY, 1, 2, Steps.NOTE, 0, 1);
        Steps.define(loop, 1, Steps.FAIL, 7, 0);
        Steps.define(loop, 2, Steps.NOTE, 0, 1);
        Steps.runOnce(loop, 0, 5);
        check.log("function b has the failure, the rest has x", loop, 7, 5);
        Steps.define(loop, 1, Steps.NOTE, 1, 0);
        Steps.runOnce(loop, 0, 5);
        check.log("function b is not run without one", loop, 7, 5, 1, 5);
        Steps.define(loop, 1, Steps.FAIL, 7, 0);
        Steps.define(loop, 2, Steps.FAIL, 8, 0);
        Steps.runOnce(loop, 0, 5);
        check.reports("function b may fail", loop, 10008);
    }

    /** With what the promise of a THEN for function 1 is fulfilled when its value is 44. */
    private static int resultOf(PromiseLoop loop) {
        Steps.define(loop, 0, Steps.MAKE, 0, 0, Steps.SETTLE, 0, 0,
                Steps.THEN, 0, Steps.on(1, NONE));
        Steps.runOnce(loop, 0, 44);
        return loop.value(loop.register(0));
    }

    private static void results(Check check) {
        PromiseLoop loop = new PromiseLoop();
        Steps.define(loop, 2, Steps.ANSWER, 22, 0);
        Steps.define(loop, 3, Steps.ANSWER, 33, 0, Steps.FAIL, 3, 0);
        check.same("0 at first", resultOf(loop), 0);
        Steps.define(loop, 1, Steps.ANSWER, -999, 0, Steps.NOTE, 1, 0);
        check.same("ANSWER of a number", resultOf(loop), -999);
        check.log("ANSWER ends nothing", loop, 1);
        Steps.define(loop, 1, Steps.ANSWER, 5, 1);
        check.same("ANSWER of x", resultOf(loop), 44);
        Steps.define(loop, 1, Steps.ANSWER, 5, 0, Steps.ANSWER, 6, 0);
        check.same("the last one", resultOf(loop), 6);
        Steps.define(loop, 1, Steps.ANSWER, 5, 2);
        check.same("ANSWER of an empty register", resultOf(loop), 0);
        Steps.define(loop, 1, Steps.ANSWER, 5, 0, Steps.CALL, 2, 0);
        check.same("CALL", resultOf(loop), 22);
        Steps.define(loop, 1, Steps.ANSWER, 5, 0, Steps.CALL, 9, 0);
        check.same("CALL of one that answers nothing", resultOf(loop), 0);
        Steps.define(loop, 1, Steps.CALL, 2, 0, Steps.ANSWER, 5, 0);
        check.same("ANSWER behind CALL", resultOf(loop), 5);
        Steps.define(loop, 1, Steps.TRY, 2, 3);
        check.same("TRY that ends", resultOf(loop), 22);
        Steps.define(loop, 1, Steps.TRY, 3, 2);
        check.same("TRY that fails", resultOf(loop), 22);
        Steps.define(loop, 1, Steps.ANSWER, 5, 0, Steps.TRY, 3, 9);
        check.same("TRY whose second answers nothing", resultOf(loop), 0);
    }

    private static void promiseAsResult(Check check) {
        PromiseLoop loop = new PromiseLoop();
        Steps.define(loop, 0, Steps.MAKE, 0, 0, Steps.MAKE, 1, 0, Steps.SETTLE, 0, 0,
                Steps.THEN, 0, Steps.on(1, NONE));
        Steps.define(loop, 1, Steps.CALL, 2, 0);
        Steps.define(loop, 2, Steps.ANSWER, 1, 2, Steps.MAKE, 1, 0);
        Steps.define(loop, 3, Steps.SETTLE, 2, 1);
        Steps.define(loop, 4, Steps.COPY, 2, 1);
        loop.post(0, 0, 1);
        loop.post(0, 4, 0);
        loop.turn();
        check.same("the new promise follows", loop.state(2), 4);
        check.same("what the register held then", loop.state(1), 8);
        check.same("not what it holds now", loop.state(3), 0);
        itself(check);
    }

    private static void itself(Check check) {
        PromiseLoop loop = new PromiseLoop();
        Steps.define(loop, 0, Steps.MAKE, 0, 0, Steps.SETTLE, 0, 0,
                Steps.THEN, 0, Steps.on(1, NONE));
        Steps.define(loop, 1, Steps.ANSWER, 0, 2);
        Steps.runOnce(loop, 0, 1);
        check.same("a result that is the promise itself", loop.state(1), 6);
        check.same("is refused", loop.value(1), -3);
    }

    private static void sixDeep(Check check) {
        PromiseLoop loop = new PromiseLoop();
        Steps.define(loop, 0, Steps.NOTE, 0, 0, Steps.CALL, 1, 0);
        for (int f = 1; f <= 6; f++) {
            Steps.define(loop, f, Steps.NOTE, f, 0, Steps.CALL, f + 1, 0);
        }
        Steps.runOnce(loop, 0, 0);
        check.log("six runs deep", loop, 0, 1, 2, 3, 4, 5);
        check.reports("the seventh", loop, 9999);
        loop.clear(5);
        Steps.runOnce(loop, 0, 0);
        check.same("no failure with six", loop.count(6), 1);
        Steps.define(loop, 5, Steps.TRY, 6, 7);
        Steps.define(loop, 7, Steps.NOTE, 77, 0);
        Steps.runOnce(loop, 0, 0);
        check.reports("TRY does not catch its own failure", loop, 9999, 9999);
        Steps.define(loop, 4, Steps.TRY, 5, 7);
        Steps.runOnce(loop, 0, 3);
        check.same("the TRY above it does", loop.logged(loop.count(5) - 1), 77);
        check.same("without a report", loop.count(6), 2);
        depthEndsWithTheRun(check);
    }

    private static void depthEndsWithTheRun(Check check) {
        PromiseLoop loop = new PromiseLoop();
        for (int f = 0; f < 5; f++) {
            Steps.define(loop, f, Steps.CALL, f + 1, 0, Steps.CALL, f + 1, 0);
        }
        loop.clear(0);
        Steps.define(loop, 0, Steps.CALL, 3, 0, Steps.CALL, 3, 0, Steps.CALL, 2, 0);
        Steps.define(loop, 5, Steps.NOTE, 5, 0);
        Steps.runOnce(loop, 0, 0);
        check.log("many runs, none too deep", loop, 5, 5, 5, 5, 5, 5, 5, 5, 5, 5, 5, 5, 5, 5, 5, 5);
        check.reports("no failure", loop);
    }

    /** Function 0 calls 6 times function 1 or 2, which calls 4 times function 3. */
    private static PromiseLoop withThirtyCalls() {
        PromiseLoop loop = new PromiseLoop();
        for (int i = 0; i < 6; i++) {
            loop.step(0, Steps.CALL, 1, 0);
        }
        for (int i = 0; i < 4; i++) {
            loop.step(1, Steps.CALL, 3, 0);
        }
        Steps.define(loop, 3, Steps.NOTE, 3, 0);
        return loop;
    }

    private static void thirtyCalls(Check check) {
        PromiseLoop loop = withThirtyCalls();
        Steps.runOnce(loop, 0, 0);
        check.same("30 calls", loop.count(5), 24);
        check.reports("are not too many", loop);
        Steps.define(loop, 4, Steps.CALL, 0, 0);
        Steps.runOnce(loop, 4, 0);
        check.same("31 calls", loop.count(5), 24 + 23);
        check.reports("are", loop, 9999);
    }

    /** The 30th call fails, so that the function that would catch it were the 31st. */
    private static void handlerIsOneToo(Check check) {
        PromiseLoop loop = withThirtyCalls();
        Steps.define(loop, 1, Steps.CALL, 3, 0, Steps.CALL, 3, 0, Steps.CALL, 3, 0,
                Steps.TRY, 4, 3);
        Steps.define(loop, 4, Steps.FAIL, 4, 0);
        Steps.runOnce(loop, 0, 0);
        check.same("six runs a round, so five rounds", loop.count(5), 5 * 4);
        check.reports("the sixth round cannot begin", loop, 9999);
        Steps.define(loop, 0, Steps.CALL, 1, 0, Steps.CALL, 1, 0, Steps.CALL, 1, 0,
                Steps.CALL, 1, 0, Steps.CALL, 3, 0, Steps.CALL, 1, 0);
        Steps.runOnce(loop, 0, 0);
        check.same("four rounds, one, and all but the last", loop.count(5), 20 + 16 + 1 + 3);
        check.reports("function b is refused with -1", loop, 9999, 9999);
    }

    private static void callsAreCountedAnew(Check check) {
        PromiseLoop loop = withThirtyCalls();
        Steps.define(loop, 5, Steps.MICRO, 0, 0, Steps.MICRO, 0, 0, Steps.FRAME, 0, 0);
        loop.advance(16);
        check.same("a task, two microtasks and a frame", Steps.runOnce(loop, 5, 0), 4);
        check.same("with 30 calls each", loop.count(5), 3 * 24);
        check.reports("no failure", loop);
    }

    /** Function 0 calls function 1 five times, each with these calls of function 3, and a TRY. */
    private static PromiseLoop withATryBehind(int callsOfTheLast) {
        PromiseLoop loop = new PromiseLoop();
        for (int i = 0; i < 5; i++) {
            loop.step(0, Steps.CALL, i < 4 ? 1 : 2, 0);
            loop.step(1, Steps.CALL, 3, 0);
        }
        for (int i = 0; i < callsOfTheLast; i++) {
            loop.step(2, Steps.CALL, 3, 0);
        }
        loop.step(0, Steps.TRY, 4, 5);
        Steps.define(loop, 4, Steps.NOTE, 4, 0, Steps.FAIL, 44, 0);
        Steps.define(loop, 5, Steps.NOTE, 0, 1);
        return loop;
    }

    private static void tryIsOneToo(Check check) {
        PromiseLoop all = withATryBehind(5);
        Steps.runOnce(all, 0, 0);
        check.log("30 begun: TRY runs neither function", all);
        check.reports("and fails its run", all, 9999);
        PromiseLoop one = withATryBehind(4);
        Steps.runOnce(one, 0, 0);
        check.log("29 begun: TRY runs function a only", one, 4);
        check.reports("function b fails", one, 9999);
        PromiseLoop two = withATryBehind(3);
        Steps.runOnce(two, 0, 0);
        check.log("28 begun: TRY runs both", two, 4, 44);
        check.reports("without a failure", two);
    }

    /** Five rounds of six runs each; a seventh in each is refused for its depth. */
    private static void refusedCallsAreNotCounted(Check check) {
        PromiseLoop loop = new PromiseLoop();
        Steps.define(loop, 0, Steps.CALL, 1, 0, Steps.CALL, 1, 0, Steps.CALL, 1, 0,
                Steps.CALL, 1, 0, Steps.CALL, 1, 0, Steps.NOTE, 1, 0);
        Steps.define(loop, 1, Steps.CALL, 2, 0);
        Steps.define(loop, 2, Steps.CALL, 3, 0);
        Steps.define(loop, 3, Steps.CALL, 4, 0);
        Steps.define(loop, 4, Steps.TRY, 5, 6);
        Steps.define(loop, 5, Steps.TRY, 9, 9);
        Steps.define(loop, 6, Steps.NOTE, 0, 1);
        Steps.runOnce(loop, 0, 0);
        check.log("caught 6 deep, five times", loop, -1, -1, -1, -1, -1, 1);
        check.reports("none was the 31st", loop);
    }

    private static void jobsAndTimersCountAnew(Check check) {
        PromiseLoop loop = withThirtyCalls();
        Steps.define(loop, 5, Steps.MAKE, 0, 0, Steps.SETTLE, 0, 0, Steps.THEN, 0, Steps.on(0, 0),
                Steps.WAIT, 0, 1, Steps.CALL, 1, 0);
        check.same("a task and a job", Steps.runOnce(loop, 5, 0), 2);
        check.same("with 5 and 30 calls", loop.count(5), 4 + 24);
        check.same("the job's function ended", loop.state(1), 5);
        loop.advance(1);
        check.same("a timer", loop.turn(), 1);
        check.same("with 30", loop.count(5), 4 + 24 + 24);
        check.reports("no failure", loop);
    }

    /** The failures of steps are numbers like any: caught by TRY, and by a reaction. */
    private static void numbersOfFailure(Check check) {
        PromiseLoop loop = new PromiseLoop();
        Steps.define(loop, 0, Steps.TRY, 1, 9, Steps.TRY, 2, 9, Steps.TRY, 3, 9);
        Steps.define(loop, 1, Steps.FAIL, -999, 0);
        Steps.define(loop, 2, Steps.FAIL, 999, 0);
        Steps.define(loop, 3, Steps.FAIL, 5, 1);
        Steps.define(loop, 9, Steps.NOTE, 0, 1);
        Steps.runOnce(loop, 0, Integer.MIN_VALUE);
        check.log("FAIL with a or with x", loop, -999, 999, Integer.MIN_VALUE);
        Steps.define(loop, 1, Steps.CALL, 1, 0);
        Steps.define(loop, 0, Steps.MAKE, 0, 0, Steps.SETTLE, 0, 0, Steps.THEN, 0, Steps.on(1, 9),
                Steps.THEN, 0, Steps.on(9, 9));
        Steps.runOnce(loop, 0, 7);
        check.same("a job whose function calls too deep", loop.value(1), -1);
        check.same("is caught with it", loop.logged(3), -1);
    }

    /** Each run is begun by the TRY of the one before, as function a or as function b. */
    private static void sixDeepByTry(Check check) {
        PromiseLoop loop = new PromiseLoop();
        for (int f = 0; f < 7; f++) {
            Steps.define(loop, f, Steps.NOTE, f, 0, Steps.TRY, f + 1, 9);
        }
        Steps.define(loop, 9, Steps.NOTE, 0, 1);
        Steps.runOnce(loop, 0, 7);
        check.log("functions a: the sixth fails", loop, 0, 1, 2, 3, 4, 5, -1);
        check.reports("caught", loop);

        PromiseLoop other = new PromiseLoop();
        for (int f = 0; f < 7; f++) {
            Steps.define(other, f, Steps.NOTE, f, 0, Steps.TRY, 9, f + 1);
        }
        Steps.define(other, 9, Steps.FAIL, 3, 0);
        Steps.runOnce(other, 0, 7);
        check.log("functions b: the sixth fails", other, 0, 1, 2, 3, 4, 5);
        check.reports("not caught", other, 9999);
    }

    /** What each step that begins or puts something gives it as x. */
    private static void everyStepHandsOn(Check check) {
        PromiseLoop loop = new PromiseLoop();
        Steps.define(loop, 0, Steps.CALL, 9, 0, Steps.TRY, 9, 8, Steps.MICRO, 9, 0,
                Steps.POST, 9, 0, Steps.WAIT, 9, 1, Steps.EVERY, 9, 2);
        Steps.define(loop, 9, Steps.NOTE, 0, 1);
        Steps.runOnce(loop, 0, 71);
        check.log("CALL, TRY, MICRO", loop, 71, 71, 71);
        loop.turn();
        check.log("POST", loop, 71, 71, 71, 71);
        loop.advance(1);
        loop.turn();
        check.log("WAIT", loop, 71, 71, 71, 71, 71);
        loop.advance(1);
        loop.turn();
        loop.advance(2);
        loop.turn();
        check.log("EVERY, each time", loop, 71, 71, 71, 71, 71, 71, 71);
        check.reports("no failure", loop);
    }

    private static void sourcesOfPost(Check check) {
        PromiseLoop loop = new PromiseLoop();
        for (int source = 0; source <= 2; source++) {
            Steps.define(loop, 1 + source, Steps.NOTE, source, 0);
            loop.step(0, Steps.POST, 3 - source, 2 - source);
            loop.step(0, Steps.POST, 3 - source, 2 - source);
        }
        Steps.runOnce(loop, 0, 0);
        int[] preferred = {2, 1, 0, 1, 2, 0};
        for (int source : preferred) {
            loop.prefer(source);
            loop.turn();
        }
        check.log("each is of its source", loop, preferred);
    }
}
