/** Short ways to give a loop its functions and tasks, with the document's names for the codes. */
final class Steps {
    static final int NOTE = 0;
    static final int POST = 1;
    static final int MICRO = 2;
    static final int WAIT = 3;
    static final int EVERY = 4;
    static final int CANCEL = 5;
    static final int FAIL = 6;
    static final int CALL = 7;
    static final int TRY = 8;
    static final int ANSWER = 9;
    static final int MAKE = 10;
    static final int SETTLE = 11;
    static final int FOLLOW = 12;
    static final int THEN = 13;
    static final int FRAME = 14;
    static final int COPY = 15;

    static final int NONE = 10;

    private Steps() {
    }

    /** Function f has these steps and no others: a code, an a and a b for each. */
    static void define(PromiseLoop loop, int f, int... steps) {
        loop.clear(f);
        for (int i = 0; i + 2 < steps.length; i += 3) {
            loop.step(f, steps[i], steps[i + 1], steps[i + 2]);
        }
    }

    /** Does a task of source 0 for the function: how many runs its turn began. */
    static int runOnce(PromiseLoop loop, int f, int x) {
        loop.post(0, f, x);
        return loop.turn();
    }

    /** The b of a THEN. */
    static int on(int forValue, int forReason) {
        return forReason * 16 + forValue;
    }
}
