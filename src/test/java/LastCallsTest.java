/** An object is used for 512 calls: the last of them is answered like any other. */
public final class LastCallsTest {
    private static final int CALLS = 512;

    public static void main(String[] args) {
        Check check = new Check("LastCallsTest");
        clock(check);
        tasks(check);
        wholeTurns(check);
        repeatingTimer(check);
        newTimers(check);
        refusals(check);
        steps(check);
        check.end();
    }

    private static void clock(Check check) {
        PromiseLoop loop = new PromiseLoop();
        for (int i = 1; i < CALLS; i++) {
            loop.advance(100);
        }
        check.same("advance(100) as the last call", loop.advance(100), 100 * CALLS);
    }

    private static void tasks(Check check) {
        PromiseLoop loop = new PromiseLoop();
        loop.step(0, Steps.POST, 0, 2);
        loop.post(0, 0, 0);
        for (int i = 3; i < CALLS; i++) {
            check.same("a task that puts itself again", loop.turn(), 1);
        }
        check.same("as the last call", loop.turn(), 1);
    }

    private static void wholeTurns(Check check) {
        PromiseLoop loop = new PromiseLoop();
        for (int i = 0; i < 5; i++) {
            loop.step(0, Steps.CALL, 1, 0);
            loop.step(1, Steps.CALL, 2, 0);
        }
        loop.step(0, Steps.MICRO, 0, 0);
        loop.step(2, Steps.NOTE, 0, 1);
        loop.post(0, 0, 8);
        for (int i = 13; i < CALLS - 2; i++) {
            check.same("50 runs, each with 30 calls", loop.turn(), 50);
        }
        check.same("what is logged ends at 200", loop.count(5), 200);
        check.same("the 200th", loop.logged(199), 8);
    }

    /** It comes back once for two calls, 254 times, and its level goes up each time. */
    private static void repeatingTimer(Check check) {
        PromiseLoop loop = new PromiseLoop();
        loop.step(0, Steps.EVERY, 1, 0);
        loop.post(0, 0, 0);
        loop.turn();
        int calls = 3;
        while (calls + 2 < CALLS) {
            loop.advance(4);
            check.same("once", loop.turn(), 1);
            calls += 2;
        }
        check.same("calls left", CALLS - calls, 1);
        check.same("due(1) as the last call", loop.due(1), 254 * 4 + 4);
    }

    /** Each timer makes the next. */
    private static void newTimers(Check check) {
        PromiseLoop loop = new PromiseLoop();
        loop.step(0, Steps.WAIT, 0, 200);
        loop.post(0, 0, 0);
        loop.turn();
        int calls = 3;
        int timer = 1;
        while (calls + 5 <= CALLS) {
            check.same("due(" + timer + ")", loop.due(timer), 200 * timer);
            loop.advance(100);
            loop.advance(100);
            loop.turn();
            check.same("gone", loop.due(timer), -1);
            calls += 5;
            timer++;
        }
        check.same("timers made", timer, 102);
    }

    private static void refusals(Check check) {
        PromiseLoop loop = new PromiseLoop();
        for (int i = 1; i < CALLS; i++) {
            check.illegalArgument("advance(0)", () -> loop.advance(0));
        }
        check.same("post as the last call", loop.post(2, 9, 0), 1);
    }

    private static void steps(Check check) {
        PromiseLoop loop = new PromiseLoop();
        int calls = 0;
        while (calls + 7 <= CALLS) {
            for (int i = 1; i <= 6; i++) {
                check.same("step", loop.step(9, Steps.NOTE, 0, 0), i);
            }
            loop.clear(9);
            calls += 7;
        }
        check.same("step as the last call but one", loop.step(9, Steps.NOTE, 0, 0), 1);
    }
}
