/** Promise 11: count. */
public final class CountTest {
    public static void main(String[] args) {
        Check check = new Check("CountTest");
        PromiseLoop loop = new PromiseLoop();
        check.illegalArgument("count(-1)", () -> loop.count(-1));
        check.illegalArgument("count(7)", () -> loop.count(7));
        check.illegalArgument("count(least)", () -> loop.count(Integer.MIN_VALUE));
        check.illegalArgument("count(largest)", () -> loop.count(Integer.MAX_VALUE));
        eachCountsItsOwn(check);
        microtasksLeft(check);
        firstTwoHundred(check);
        lastOneKept(check);
        otherKindsAreNotKept(check);
        check.end();
    }

    private static void eachCountsItsOwn(Check check) {
        PromiseLoop loop = new PromiseLoop();
        Steps.define(loop, 0, Steps.MAKE, 0, 0, Steps.POST, 9, 2, Steps.POST, 9, 1,
                Steps.WAIT, 9, 5, Steps.CALL, 1, 0);
        Steps.define(loop, 1, Steps.WAIT, 9, 6, Steps.EVERY, 9, 7, Steps.FRAME, 9, 0,
                Steps.FRAME, 9, 0, Steps.FRAME, 9, 0, Steps.CALL, 2, 0);
        Steps.define(loop, 2, Steps.FRAME, 9, 0, Steps.NOTE, 1, 0, Steps.NOTE, 1, 0,
                Steps.NOTE, 1, 0, Steps.NOTE, 1, 0, Steps.CALL, 3, 0);
        Steps.define(loop, 3, Steps.NOTE, 1, 0, Steps.FAIL, 1, 0);
        Steps.runOnce(loop, 0, 0);
        int[] due = {1, 2, 0, 3, 4, 5, 1};
        for (int which = 0; which < due.length; which++) {
            check.same("count(" + which + ")", loop.count(which), due[which]);
        }
        loop.advance(6);
        check.same("tasks of two timers more", loop.count(1), 4);
        check.same("timers whose tasks wait are there", loop.count(3), 3);
    }

    private static void microtasksLeft(Check check) {
        PromiseLoop loop = new PromiseLoop();
        Steps.define(loop, 0, Steps.MAKE, 0, 0, Steps.MAKE, 1, 0, Steps.CALL, 1, 0,
                Steps.CALL, 1, 0, Steps.FOLLOW, 0, 1);
        Steps.define(loop, 1, Steps.CALL, 2, 0, Steps.CALL, 2, 0, Steps.CALL, 2, 0,
                Steps.CALL, 2, 0, Steps.CALL, 2, 0);
        Steps.define(loop, 2, Steps.MICRO, 9, 0, Steps.MICRO, 9, 0, Steps.MICRO, 9, 0,
                Steps.MICRO, 9, 0, Steps.MICRO, 9, 0, Steps.MICRO, 9, 0);
        check.same("runs", Steps.runOnce(loop, 0, 0), 50);
        check.same("11 microtasks and a job are left", loop.count(2), 12);
        check.same("the rest", loop.turn(), 11);
        check.same("none is left", loop.count(2), 0);
    }

    private static void firstTwoHundred(Check check) {
        PromiseLoop loop = new PromiseLoop();
        Steps.define(loop, 0, Steps.NOTE, 0, 1, Steps.MICRO, 0, 0, Steps.FAIL, 0, 1);
        loop.post(0, 0, 5);
        for (int i = 1; i <= 4; i++) {
            loop.turn();
            check.same("logged", loop.count(5), 50 * i);
            check.same("reported", loop.count(6), 50 * i);
        }
        Steps.define(loop, 0, Steps.NOTE, 9, 0, Steps.MICRO, 0, 0, Steps.FAIL, 9, 0);
        loop.turn();
        check.same("logged, no more", loop.count(5), 200);
        check.same("reported, no more", loop.count(6), 200);
        check.same("the last logged", loop.logged(199), 5);
        check.same("the last reported", loop.reported(199), 10005);
        check.outOfBounds("logged(200)", () -> loop.logged(200));
        check.outOfBounds("reported(200)", () -> loop.reported(200));
    }

    /** Function 0 logs and is reported once, with 1, in each of its 199 runs. */
    private static PromiseLoop withOnePlaceLeft() {
        PromiseLoop loop = new PromiseLoop();
        Steps.define(loop, 0, Steps.NOTE, 1, 0, Steps.MICRO, 0, 0, Steps.FAIL, 1, 0);
        loop.post(0, 0, 0);
        for (int i = 0; i < 3; i++) {
            loop.turn();
        }
        loop.clear(0);
        loop.turn();
        Steps.define(loop, 0, Steps.NOTE, 1, 0, Steps.FAIL, 1, 0);
        for (int i = 0; i < 49; i++) {
            Steps.runOnce(loop, 0, 0);
        }
        return loop;
    }

    private static void lastOneKept(Check check) {
        PromiseLoop loop = withOnePlaceLeft();
        check.same("logged", loop.count(5), 199);
        check.same("reported", loop.count(6), 199);
        check.outOfBounds("logged(199)", () -> loop.logged(199));
        check.outOfBounds("reported(199)", () -> loop.reported(199));
        Steps.define(loop, 1, Steps.NOTE, 2, 0, Steps.NOTE, 3, 0, Steps.FAIL, 4, 0);
        Steps.define(loop, 2, Steps.FAIL, 5, 0);
        Steps.runOnce(loop, 1, 0);
        Steps.runOnce(loop, 2, 0);
        check.same("logged, the 200th and not the 201st", loop.count(5), 200);
        check.same("reported, likewise", loop.count(6), 200);
        check.same("logged(199)", loop.logged(199), 2);
        check.same("reported(199)", loop.reported(199), 10004);
        check.same("the first logged", loop.logged(0), 1);
        check.same("the first reported", loop.reported(0), 10001);
    }

    private static void otherKindsAreNotKept(Check check) {
        PromiseLoop loop = withOnePlaceLeft();
        Steps.define(loop, 1, Steps.MAKE, 0, 0, Steps.MAKE, 1, 0, Steps.SETTLE, 1, 1,
                Steps.SETTLE, 0, 1);
        Steps.runOnce(loop, 1, 0);
        check.same("the 200th is an unhandled one", loop.reported(199), 20001);
        Steps.define(loop, 1, Steps.THEN, 0, Steps.on(9, 9), Steps.THEN, 1, Steps.on(9, 9));
        Steps.runOnce(loop, 1, 0);
        check.same("reported, no more", loop.count(6), 200);
        check.same("though both are handled", loop.state(0) + loop.state(1), 28);
    }
}
