import java.util.Arrays;
import java.util.Random;

/** Random runs of 512 calls, the same ones every time, on the class and on the model beside it. */
public final class RandomRunsTest {
    private static final int CALLS = 512;
    private static final int RUNS = 6000;
    private static final int WRONG_SHOWN = 10;

    private static final int STEP = 0;
    private static final int CLEAR = 1;
    private static final int POST = 2;
    private static final int PREFER = 3;
    private static final int TURN = 4;
    private static final int ADVANCE = 5;
    private static final int REGISTER = 6;
    private static final int STATE = 7;
    private static final int VALUE = 8;
    private static final int COUNT = 9;
    private static final int LOGGED = 10;
    private static final int REPORTED = 11;
    private static final int DUE = 12;
    private static final String[] NAMES = {"step", "clear", "post", "prefer", "turn", "advance",
        "register", "state", "value", "count", "logged", "reported", "due", "time"};

    /** How often each code comes in a run of that kind; the last row takes all alike. */
    private static final int[][] CODES = {
        {4, 1, 2, 0, 0, 0, 3, 2, 3, 6, 6, 8, 4, 9, 0, 4},
        {3, 1, 2, 6, 5, 4, 1, 2, 2, 1, 1, 1, 1, 1, 3, 1},
        {3, 1, 6, 1, 1, 1, 3, 6, 6, 3, 1, 2, 1, 2, 3, 1},
        {2, 1, 4, 1, 1, 0, 1, 3, 1, 1, 1, 1, 1, 1, 6, 1},
        {1, 0, 9, 2, 1, 4, 1, 2, 1, 1, 1, 5, 2, 1, 1, 1},
        {1, 1, 1, 1, 1, 1, 1, 1, 1, 1, 1, 1, 1, 1, 1, 1}};

    public static void main(String[] args) {
        int wrong = 0;
        for (int seed = 0; seed < RUNS && wrong < WRONG_SHOWN; seed++) {
            wrong += run(seed) ? 0 : 1;
        }
        System.out.println("RandomRunsTest: " + RUNS + " runs, " + wrong + " wrong");
        if (wrong != 0) {
            System.exit(1);
        }
    }

    private static boolean run(int seed) {
        Random random = new Random(seed);
        int[] codes = CODES[seed % CODES.length];
        int functions = 2 + random.nextInt(9);
        PromiseLoop loop = new PromiseLoop();
        Model model = new Model();
        for (int i = 0; i < CALLS; i++) {
            int[] call = i < functions * 5 ? randomStep(random, codes, functions)
                    : randomCall(random, codes, functions, model);
            String got = answer(() -> onLoop(loop, call));
            String due = answer(() -> onModel(model, call));
            if (!got.equals(due)) {
                System.out.println("run " + seed + ", call " + i + ": " + NAMES[call[0]] + " "
                        + Arrays.toString(call) + " answered " + got + ", due is " + due);
                return false;
            }
        }
        return true;
    }

    private interface Answer {
        int give();
    }

    private static String answer(Answer answer) {
        try {
            return Integer.toString(answer.give());
        } catch (RuntimeException e) {
            return e.getClass().getName();
        }
    }

    private static int pick(Random random, int[] weights) {
        int left = random.nextInt(Arrays.stream(weights).sum());
        int at = 0;
        while (left >= weights[at]) {
            left -= weights[at];
            at++;
        }
        return at;
    }

    private static int number(Random random) {
        return random.nextInt(8) == 0 ? random.nextInt(2003) - 1001 : random.nextInt(21) - 10;
    }

    private static int[] randomStep(Random random, int[] codes, int functions) {
        int code = pick(random, codes);
        int a = first(random, code, functions);
        int b = second(random, code, functions);
        if (random.nextInt(60) == 0) {
            code = random.nextInt(18) - 1;
        }
        if (random.nextInt(60) == 0) {
            a = number(random);
        }
        if (random.nextInt(60) == 0) {
            b = number(random);
        }
        return new int[] {STEP, random.nextInt(functions), code, a, b};
    }

    private static int first(Random random, int code, int functions) {
        return switch (code) {
            case 0, 6, 9 -> random.nextInt(8);
            case 5 -> 1 + random.nextInt(random.nextInt(3) == 0 ? 40 : 8);
            case 10, 11, 12, 13, 15 -> random.nextInt(random.nextBoolean() ? 3 : 8);
            default -> random.nextInt(functions);
        };
    }

    private static int second(Random random, int code, int functions) {
        return switch (code) {
            case 1, 9 -> random.nextInt(3);
            case 3, 4 -> random.nextInt(random.nextBoolean() ? 6 : 40);
            case 8 -> random.nextInt(functions);
            case 12, 15 -> random.nextInt(random.nextBoolean() ? 3 : 8);
            case 13 -> half(random, functions) * 16 + half(random, functions);
            default -> random.nextInt(2);
        };
    }

    private static int half(Random random, int functions) {
        return random.nextInt(3) == 0 ? 10 + random.nextInt(6) : random.nextInt(functions);
    }

    private static int[] randomCall(Random random, int[] codes, int functions, Model model) {
        int[] weights = {12, 2, 22, 2, 26, 10, 3, 5, 4, 6, 5, 5, 5, 1};
        int kind = pick(random, weights);
        int odd = random.nextInt(40) == 0 ? 1 : 0;
        return switch (kind) {
            case STEP -> randomStep(random, codes, functions);
            case CLEAR -> new int[] {kind, random.nextInt(functions + odd)};
            case POST -> new int[] {kind, random.nextInt(3 + odd), random.nextInt(functions + odd),
                number(random)};
            case PREFER -> new int[] {kind, random.nextInt(3 + odd)};
            case ADVANCE -> new int[] {kind, random.nextInt(random.nextBoolean() ? 6 : 102)};
            case REGISTER -> new int[] {kind, random.nextInt(9)};
            case STATE, VALUE -> new int[] {kind, random.nextInt(model.count(0) + 1) - odd};
            case COUNT -> new int[] {kind, random.nextInt(7 + odd) - odd};
            case LOGGED -> new int[] {kind, random.nextInt(model.count(5) + 1) - odd};
            case REPORTED -> new int[] {kind, random.nextInt(model.count(6) + 1) - odd};
            case DUE -> new int[] {kind, random.nextInt(random.nextBoolean() ? 8 : 60) - odd};
            default -> new int[] {kind};
        };
    }

    private static int onLoop(PromiseLoop loop, int[] c) {
        switch (c[0]) {
            case STEP:
                return loop.step(c[1], c[2], c[3], c[4]);
            case CLEAR:
                loop.clear(c[1]);
                return 0;
            case POST:
                return loop.post(c[1], c[2], c[3]);
            case PREFER:
                loop.prefer(c[1]);
                return 0;
            case TURN:
                return loop.turn();
            case ADVANCE:
                return loop.advance(c[1]);
            case REGISTER:
                return loop.register(c[1]);
            case STATE:
                return loop.state(c[1]);
            case VALUE:
                return loop.value(c[1]);
            case COUNT:
                return loop.count(c[1]);
            case LOGGED:
                return loop.logged(c[1]);
            case REPORTED:
                return loop.reported(c[1]);
            case DUE:
                return loop.due(c[1]);
            default:
                return loop.time();
        }
    }

    private static int onModel(Model model, int[] c) {
        return switch (c[0]) {
            case STEP -> model.step(c[1], c[2], c[3], c[4]);
            case CLEAR -> model.clear(c[1]);
            case POST -> model.post(c[1], c[2], c[3]);
            case PREFER -> model.prefer(c[1]);
            case TURN -> model.turn();
            case ADVANCE -> model.advance(c[1]);
            case REGISTER -> model.register(c[1]);
            case STATE -> model.state(c[1]);
            case VALUE -> model.value(c[1]);
            case COUNT -> model.count(c[1]);
            case LOGGED -> model.logged(c[1]);
            case REPORTED -> model.reported(c[1]);
            case DUE -> model.due(c[1]);
            default -> model.time();
        };
    }
}
