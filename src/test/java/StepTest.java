/** Promise 2: step, its answers, every edge of every code's numbers, and a full function. */
public final class StepTest {
    private static final int[] FUNCTION = {0, 9};
    private static final int[] REGISTER = {0, 7};
    private static final int[] SOURCE = {0, 2};
    private static final int[] DELAY = {0, 200};
    private static final int[] NUMBER = {-999, 999};
    private static final int[] CHOICE = {0, 1};
    private static final int[] BOTH_FUNCTIONS = {0, 255};
    private static final int[] ANY = {Integer.MIN_VALUE, Integer.MAX_VALUE};

    private static final int[][] FIRST = {
        NUMBER, FUNCTION, FUNCTION, FUNCTION, FUNCTION, NUMBER, NUMBER, FUNCTION,
        FUNCTION, NUMBER, REGISTER, REGISTER, REGISTER, REGISTER, FUNCTION, REGISTER};
    private static final int[][] SECOND = {
        CHOICE, SOURCE, ANY, DELAY, DELAY, ANY, CHOICE, ANY,
        FUNCTION, CHOICE, ANY, CHOICE, REGISTER, BOTH_FUNCTIONS, ANY, REGISTER};

    public static void main(String[] args) {
        Check check = new Check("StepTest");
        for (int code = 0; code < 16; code++) {
            edges(check, code, FIRST[code], SECOND[code]);
        }
        answerOfRegister(check);
        wrongFunctionsAndCodes(check);
        fullFunction(check);
        orderOfSteps(check);
        stepsWhenItBegins(check);
        check.end();
    }

    private static void edges(Check check, int code, int[] first, int[] second) {
        taken(check, code, first[0], second[0]);
        taken(check, code, first[0], second[1]);
        taken(check, code, first[1], second[0]);
        taken(check, code, first[1], second[1]);
        refused(check, code, first[0] - 1, second[0]);
        refused(check, code, first[1] + 1, second[1]);
        refused(check, code, Integer.MIN_VALUE, second[0]);
        refused(check, code, Integer.MAX_VALUE, second[0]);
        if (second != ANY) {
            int above = code == Steps.ANSWER ? 3 : second[1] + 1;
            refused(check, code, first[0], second[0] - 1);
            refused(check, code, first[1], above);
            refused(check, code, first[0], Integer.MIN_VALUE);
            refused(check, code, first[0], Integer.MAX_VALUE);
        } else {
            taken(check, code, first[0], -5);
        }
    }

    private static void taken(Check check, int code, int a, int b) {
        PromiseLoop loop = new PromiseLoop();
        check.same("step(3, " + code + ", " + a + ", " + b + ")", loop.step(3, code, a, b), 1);
    }

    private static void refused(Check check, int code, int a, int b) {
        PromiseLoop loop = new PromiseLoop();
        String call = "step(3, " + code + ", " + a + ", " + b + ")";
        check.illegalArgument(call, () -> loop.step(3, code, a, b));
        check.same("the next step behind " + call, loop.step(3, 0, 0, 0), 1);
    }

    private static void answerOfRegister(Check check) {
        taken(check, Steps.ANSWER, 0, 2);
        taken(check, Steps.ANSWER, 7, 2);
        refused(check, Steps.ANSWER, -1, 2);
        refused(check, Steps.ANSWER, 8, 2);
        taken(check, Steps.ANSWER, 8, 1);
        refused(check, Steps.ANSWER, 1000, 1);
    }

    private static void wrongFunctionsAndCodes(Check check) {
        PromiseLoop loop = new PromiseLoop();
        check.illegalArgument("step of function -1", () -> loop.step(-1, 0, 0, 0));
        check.illegalArgument("step of function 10", () -> loop.step(10, 0, 0, 0));
        check.illegalArgument("largest function", () -> loop.step(Integer.MAX_VALUE, 0, 0, 0));
        check.illegalArgument("least function", () -> loop.step(Integer.MIN_VALUE, 0, 0, 0));
        check.illegalArgument("code -1", () -> loop.step(0, -1, 0, 0));
        check.illegalArgument("code 16", () -> loop.step(0, 16, 0, 0));
        check.illegalArgument("largest code", () -> loop.step(0, Integer.MAX_VALUE, 0, 0));
        check.illegalArgument("least code", () -> loop.step(0, Integer.MIN_VALUE, 0, 0));
        for (int f = 0; f < 10; f++) {
            check.same("the first step of " + f, loop.step(f, Steps.NOTE, f, 0), 1);
        }
    }

    private static void fullFunction(Check check) {
        PromiseLoop loop = new PromiseLoop();
        for (int i = 1; i <= 6; i++) {
            check.same("step " + i, loop.step(9, Steps.NOTE, i, 0), i);
        }
        check.illegalState("a seventh step", () -> loop.step(9, Steps.NOTE, 7, 0));
        check.illegalArgument("a seventh step that is wrong", () -> loop.step(9, 16, 7, 0));
        check.illegalArgument("one with a wrong b", () -> loop.step(9, Steps.NOTE, 7, 2));
        check.same("another function", loop.step(8, Steps.NOTE, 1, 0), 1);
        Steps.runOnce(loop, 9, 0);
        check.log("a full function", loop, 1, 2, 3, 4, 5, 6);
    }

    private static void orderOfSteps(Check check) {
        PromiseLoop loop = new PromiseLoop();
        loop.step(0, Steps.NOTE, 4, 0);
        loop.step(1, Steps.NOTE, 8, 0);
        loop.step(0, Steps.NOTE, 5, 0);
        Steps.runOnce(loop, 0, 0);
        check.log("steps put in turns", loop, 4, 5);
    }

    /** Whatever waits for a function finds the steps that it has when it begins. */
    private static void stepsWhenItBegins(Check check) {
        PromiseLoop loop = new PromiseLoop();
        Steps.define(loop, 0, Steps.WAIT, 1, 5, Steps.FRAME, 1, 0, Steps.MAKE, 0, 0,
                Steps.COPY, 1, 0, Steps.THEN, 1, Steps.on(1, 1));
        Steps.runOnce(loop, 0, 0);
        loop.post(0, 1, 0);
        loop.step(1, Steps.NOTE, 1, 0);
        loop.turn();
        check.log("a task", loop, 1);
        loop.step(1, Steps.NOTE, 2, 0);
        loop.advance(5);
        loop.turn();
        check.log("a timer", loop, 1, 1, 2);
        Steps.define(loop, 1, Steps.NOTE, 3, 0);
        loop.advance(11);
        loop.turn();
        check.log("a frame", loop, 1, 1, 2, 3);
        Steps.define(loop, 1, Steps.NOTE, 4, 0);
        Steps.define(loop, 2, Steps.SETTLE, 0, 0);
        Steps.runOnce(loop, 2, 0);
        check.log("a reaction", loop, 1, 1, 2, 3, 4);
    }
}
