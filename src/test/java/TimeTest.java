/** Promise 15: time. */
public final class TimeTest {
    public static void main(String[] args) {
        Check check = new Check("TimeTest");
        PromiseLoop loop = new PromiseLoop();
        check.same("at first", loop.time(), 0);
        int due = 0;
        for (int n = 1; n <= 100; n++) {
            loop.advance(n);
            due += n;
            check.same("behind advance(" + n + ")", loop.time(), due);
        }
        loop.turn();
        check.same("a turn takes no time", loop.time(), due);
        check.illegalArgument("advance(0)", () -> loop.advance(0));
        check.same("nor does what is refused", loop.time(), due);
        check.end();
    }
}
