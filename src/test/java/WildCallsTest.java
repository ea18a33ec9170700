import java.util.List;
import java.util.Random;

/**
 * No call throws what the document does not name for it, whatever its arguments and however long
 * the object has been used: beyond its 512 calls too, when what it answers is free.
 */
public final class WildCallsTest {
    private static final int RUNS = 60;
    private static final int CALLS = 5000;
    private static final int[] NUMBERS = {Integer.MIN_VALUE, Integer.MIN_VALUE + 1, -10000, -1000,
        -999, -3, -2, -1, 0, 1, 2, 3, 5, 6, 7, 8, 9, 10, 11, 15, 16, 39, 40, 41, 59, 60, 100, 101,
        160, 199, 200, 201, 255, 256, 999, 1000, Integer.MAX_VALUE - 1, Integer.MAX_VALUE};

    private static final List<Class<?>> NOTHING = List.of();
    private static final List<Class<?>> ARGUMENT = List.of(IllegalArgumentException.class);
    private static final List<Class<?>> INDEX = List.of(IndexOutOfBoundsException.class);
    private static final List<Class<?>> ARGUMENT_OR_STATE =
            List.of(IllegalArgumentException.class, IllegalStateException.class);
    private static final List<Class<?>> INDEX_OR_STATE =
            List.of(IndexOutOfBoundsException.class, IllegalStateException.class);

    public static void main(String[] args) {
        Check check = new Check("WildCallsTest");
        for (int seed = 0; seed < RUNS; seed++) {
            Random random = new Random(seed);
            PromiseLoop loop = new PromiseLoop();
            for (int i = 0; i < CALLS; i++) {
                wildCall(check, loop, random);
            }
        }
        check.end();
    }

    /** Half of the numbers are small, so that much is allowed and the object has much to do. */
    private static int number(Random random) {
        return random.nextBoolean() ? random.nextInt(10) : NUMBERS[random.nextInt(NUMBERS.length)];
    }

    private static void wildCall(Check check, PromiseLoop loop, Random random) {
        int a = number(random);
        int b = number(random);
        int c = number(random);
        int d = number(random);
        switch (random.nextInt(18)) {
            case 0, 1 -> allowed(check, "step", () -> loop.step(a, b, c, d), ARGUMENT_OR_STATE);
            case 2 -> allowed(check, "clear", () -> loop.clear(a), ARGUMENT);
            case 3, 4 -> allowed(check, "post", () -> loop.post(a, b, c), ARGUMENT_OR_STATE);
            case 5 -> allowed(check, "prefer", () -> loop.prefer(a), ARGUMENT);
            case 6, 7, 8 -> allowed(check, "turn", () -> loop.turn(), NOTHING);
            case 9 -> allowed(check, "advance", () -> loop.advance(a), ARGUMENT);
            case 10 -> allowed(check, "register", () -> loop.register(a), INDEX);
            case 11 -> allowed(check, "state", () -> loop.state(a), INDEX);
            case 12 -> allowed(check, "value", () -> loop.value(a), INDEX_OR_STATE);
            case 13 -> allowed(check, "count", () -> loop.count(a), ARGUMENT);
            case 14 -> allowed(check, "logged", () -> loop.logged(a), INDEX);
            case 15 -> allowed(check, "reported", () -> loop.reported(a), INDEX);
            case 16 -> allowed(check, "due", () -> loop.due(a), NOTHING);
            default -> allowed(check, "time", () -> loop.time(), NOTHING);
        }
    }

    private static void allowed(Check check, String name, Runnable call, List<Class<?>> may) {
        Class<?> thrown = null;
        try {
            call.run();
        } catch (RuntimeException | StackOverflowError e) {
            thrown = e.getClass();
        }
        boolean held = thrown == null || may.contains(thrown);
        check.same(name + " threw " + thrown + ", as it may", held ? 1 : 0, 1);
    }
}
