/** Promise 8: register, and what MAKE, THEN and COPY put there. */
public final class RegisterTest {
    public static void main(String[] args) {
        Check check = new Check("RegisterTest");
        PromiseLoop loop = new PromiseLoop();
        check.outOfBounds("register(-1)", () -> loop.register(-1));
        check.outOfBounds("register(8)", () -> loop.register(8));
        check.outOfBounds("register(least)", () -> loop.register(Integer.MIN_VALUE));
        check.outOfBounds("register(largest)", () -> loop.register(Integer.MAX_VALUE));

        Steps.define(loop, 0, Steps.MAKE, 7, 0, Steps.MAKE, 0, 0, Steps.MAKE, 7, 0);
        Steps.runOnce(loop, 0, 0);
        check.same("register(0)", loop.register(0), 1);
        check.same("register(7)", loop.register(7), 2);
        check.same("register(1)", loop.register(1), -1);

        Steps.define(loop, 0, Steps.COPY, 3, 7, Steps.COPY, 0, 5, Steps.COPY, 7, 7);
        Steps.runOnce(loop, 0, 0);
        check.same("copied", loop.register(3), 2);
        check.same("copied nothing", loop.register(0), -1);
        check.same("copied to itself", loop.register(7), 2);

        Steps.define(loop, 0, Steps.THEN, 3, Steps.on(1, 1), Steps.THEN, 6, Steps.on(1, 1));
        Steps.runOnce(loop, 0, 0);
        check.same("THEN puts its new promise", loop.register(3), 3);
        check.same("only into its register", loop.register(7), 2);
        check.same("and does nothing with an empty one", loop.register(6), -1);
        check.same("promises made", loop.count(0), 4);
        check.end();
    }
}
