import java.lang.management.ManagementFactory;

/** All calls of a run live in one room: an object is small, and its calls make nothing. */
public final class RoomTest {
    private static final int TURNS = 220;
    private static final int LARGEST_OBJECT = 32 * 1024;
    private static final int MADE_BY_MEASURING = 4 * 1024;

    public static void main(String[] args) {
        Check check = new Check("RoomTest");
        // The first object and the first measure load classes, which is not what is measured.
        giveFunctions(new PromiseLoop());
        allMade();
        long before = allMade();
        PromiseLoop loop = new PromiseLoop();
        long made = allMade() - before;
        check.same("an object of " + made + " bytes is small", made < LARGEST_OBJECT ? 1 : 0, 1);
        giveFunctions(loop);
        before = allMade();
        int runs = 0;
        for (int i = 0; i < TURNS; i++) {
            runs += loop.turn();
            loop.advance(16);
        }
        made = allMade() - before;
        check.same("runs", runs, 50 * TURNS);
        check.same("what they made, " + made + " bytes, is nothing",
                made < MADE_BY_MEASURING ? 1 : 0, 1);
        check.end();
    }

    private static long allMade() {
        return ((com.sun.management.ThreadMXBean) ManagementFactory.getThreadMXBean())
                .getThreadAllocatedBytes(Thread.currentThread().getId());
    }

    /** Microtasks without end that call, put and settle as much as they may. */
    private static void giveFunctions(PromiseLoop loop) {
        Steps.define(loop, 0, Steps.MICRO, 0, 0, Steps.TRY, 1, 9, Steps.TRY, 2, 9,
                Steps.TRY, 3, 9, Steps.TRY, 4, 9, Steps.CALL, 0, 0);
        Steps.define(loop, 1, Steps.MAKE, 0, 0, Steps.THEN, 0, Steps.on(8, 8),
                Steps.SETTLE, 0, 1, Steps.FOLLOW, 0, 1);
        Steps.define(loop, 2, Steps.NOTE, 1, 0, Steps.POST, 9, 1, Steps.POST, 9, 2);
        Steps.define(loop, 3, Steps.FRAME, 9, 0, Steps.FRAME, 9, 0);
        Steps.define(loop, 4, Steps.WAIT, 9, 1, Steps.EVERY, 9, 1);
        loop.post(0, 0, 5);
    }
}
