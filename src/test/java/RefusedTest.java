import java.util.ArrayList;
import java.util.List;
import java.util.function.Consumer;
import java.util.function.Predicate;

/**
 * A refused call changes nothing: an object that is asked for what it refuses before each of its
 * calls answers them as its twin does, which is not.
 */
public final class RefusedTest {
    private static final int NONE = Steps.NONE;
    private static final int ROUNDS = 8;
    private static final int FULL_FUNCTION = 9;

    /** For each code a wrong a and a wrong b, where it knows one. */
    private static final int[][] WRONG_STEPS = {
        {Steps.NOTE, 1000, 0}, {Steps.NOTE, -1000, 1}, {Steps.NOTE, 0, 2}, {Steps.POST, 10, 0},
        {Steps.POST, 0, 3}, {Steps.MICRO, 10, 0}, {Steps.WAIT, 10, 0}, {Steps.WAIT, 0, 201},
        {Steps.EVERY, -1, 0}, {Steps.EVERY, 0, -1}, {Steps.CANCEL, 1000, 0}, {Steps.FAIL, 1000, 0},
        {Steps.FAIL, 0, -1}, {Steps.CALL, 10, 0}, {Steps.TRY, 10, 0}, {Steps.TRY, 0, 10},
        {Steps.ANSWER, 1000, 0}, {Steps.ANSWER, 8, 2}, {Steps.ANSWER, 0, 3}, {Steps.MAKE, 8, 0},
        {Steps.SETTLE, 8, 0}, {Steps.SETTLE, 0, 2}, {Steps.FOLLOW, 8, 0}, {Steps.FOLLOW, 0, 8},
        {Steps.THEN, 8, 0}, {Steps.THEN, 0, 256}, {Steps.THEN, 0, -1}, {Steps.FRAME, 10, 0},
        {Steps.COPY, 8, 0}, {Steps.COPY, 0, 8}, {-1, 0, 0}, {16, 0, 0}};

    /** A call, and the states in which it is refused. */
    private record Refusal(String name, Predicate<PromiseLoop> refuses,
            Consumer<PromiseLoop> call, Class<? extends RuntimeException> due) {
    }

    public static void main(String[] args) {
        Check check = new Check("RefusedTest");
        for (Refusal refusal : refusals()) {
            PromiseLoop loop = new PromiseLoop();
            PromiseLoop twin = new PromiseLoop();
            int refused = scenario(check, refusal, loop, twin);
            check.same(refusal.name + " was refused at least once", refused > 0 ? 1 : 0, 1);
            compare(check, refusal.name, loop, twin);
        }
        check.end();
    }

    private static List<Refusal> refusals() {
        List<Refusal> all = new ArrayList<>();
        for (int[] s : WRONG_STEPS) {
            argument(all, "step(0, " + s[0] + ", " + s[1] + ", " + s[2] + ")",
                    loop -> loop.step(0, s[0], s[1], s[2]));
        }
        int[] wrongFunctions = {-1, 10};
        for (int f : wrongFunctions) {
            argument(all, "step of function " + f, loop -> loop.step(f, Steps.NOTE, 0, 0));
            argument(all, "clear(" + f + ")", loop -> loop.clear(f));
            argument(all, "post of function " + f, loop -> loop.post(0, f, 1));
        }
        int[] wrongSources = {-1, 3};
        for (int source : wrongSources) {
            argument(all, "post of source " + source, loop -> loop.post(source, 0, 1));
            argument(all, "prefer(" + source + ")", loop -> loop.prefer(source));
        }
        int[] wrongTimes = {-1, 0, 101};
        for (int n : wrongTimes) {
            argument(all, "advance(" + n + ")", loop -> loop.advance(n));
        }
        argument(all, "count(-1)", loop -> loop.count(-1));
        argument(all, "count(7)", loop -> loop.count(7));
        indexes(all);
        states(all);
        return all;
    }

    private static void argument(List<Refusal> all, String name, Consumer<PromiseLoop> call) {
        all.add(new Refusal(name, loop -> true, call, IllegalArgumentException.class));
    }

    private static void index(List<Refusal> all, String name, Consumer<PromiseLoop> call) {
        all.add(new Refusal(name, loop -> true, call, IndexOutOfBoundsException.class));
    }

    private static void indexes(List<Refusal> all) {
        index(all, "register(-1)", loop -> loop.register(-1));
        index(all, "register(8)", loop -> loop.register(8));
        index(all, "state(-1)", loop -> loop.state(-1));
        index(all, "state behind the last", loop -> loop.state(loop.count(0)));
        index(all, "value(-1)", loop -> loop.value(-1));
        index(all, "value behind the last", loop -> loop.value(loop.count(0)));
        index(all, "logged(-1)", loop -> loop.logged(-1));
        index(all, "logged behind the last", loop -> loop.logged(loop.count(5)));
        index(all, "reported(-1)", loop -> loop.reported(-1));
        index(all, "reported behind the last", loop -> loop.reported(loop.count(6)));
    }

    private static void states(List<Refusal> all) {
        Class<IllegalStateException> due = IllegalStateException.class;
        all.add(new Refusal("a seventh step", loop -> true,
                loop -> loop.step(FULL_FUNCTION, Steps.FAIL, 7, 0), due));
        for (int i = 0; i < 3; i++) {
            int source = i;
            all.add(new Refusal("a 41st task of source " + source, loop -> loop.count(1) >= 40,
                    loop -> loop.post(source, 1, 5), due));
        }
        all.add(new Refusal("value of a pending one",
                loop -> loop.count(0) > 0 && loop.state(0) % 4 == 0, loop -> loop.value(0), due));
    }

    /** Answers how often the call was refused. */
    private static int scenario(Check check, Refusal refusal, PromiseLoop loop, PromiseLoop twin) {
        int refused = 0;
        giveFunctions(loop);
        giveFunctions(twin);
        for (int i = 0; i < ROUNDS; i++) {
            int round = i;
            refused += both(check, refusal, loop, twin, "post",
                    one -> one.post(round % 3, 0, round));
            refused += both(check, refusal, loop, twin, "turn", PromiseLoop::turn);
            refused += both(check, refusal, loop, twin, "advance", one -> one.advance(5));
            refused += both(check, refusal, loop, twin, "post", one -> one.post(2, 1, 7));
            refused += both(check, refusal, loop, twin, "post", one -> one.post(1, 2, 8));
            if (round == 3) {
                refused += both(check, refusal, loop, twin, "prefer", RefusedTest::preferLast);
            }
            refused += both(check, refusal, loop, twin, "turn", PromiseLoop::turn);
        }
        return refused;
    }

    private static int preferLast(PromiseLoop loop) {
        loop.prefer(2);
        return 0;
    }

    private interface Call {
        int on(PromiseLoop loop);
    }

    private static int both(Check check, Refusal refusal, PromiseLoop loop, PromiseLoop twin,
            String what, Call call) {
        boolean refuses = refusal.refuses.test(loop);
        if (refuses) {
            check.fails(refusal.name, () -> refusal.call.accept(loop), refusal.due);
        }
        check.same(what + " behind " + refusal.name, answer(call, loop), answer(call, twin));
        return refuses ? 1 : 0;
    }

    /** A post that both refuse is an answer as well. */
    private static int answer(Call call, PromiseLoop loop) {
        try {
            return call.on(loop);
        } catch (IllegalStateException e) {
            return Integer.MIN_VALUE;
        }
    }

    /** All kinds of things come to wait, and more tasks are put than are done, from 34 on. */
    private static void giveFunctions(PromiseLoop loop) {
        Steps.define(loop, 0, Steps.NOTE, 0, 1, Steps.CALL, 3, 0, Steps.CALL, 4, 0,
                Steps.CALL, 5, 0, Steps.TRY, 6, 7, Steps.MICRO, 8, 0);
        Steps.define(loop, 1, Steps.NOTE, 1, 0, Steps.FRAME, 8, 0);
        Steps.define(loop, 2, Steps.CANCEL, 3, 0, Steps.FAIL, 2, 0);
        Steps.define(loop, 3, Steps.MAKE, 0, 0, Steps.COPY, 1, 0, Steps.THEN, 1, Steps.on(8, NONE));
        Steps.define(loop, 4, Steps.MAKE, 2, 0, Steps.SETTLE, 2, 1, Steps.FOLLOW, 1, 2);
        Steps.define(loop, 5, Steps.WAIT, 8, 6, Steps.EVERY, 8, 3);
        Steps.define(loop, 6, Steps.NOTE, 6, 0, Steps.FAIL, 66, 0);
        Steps.define(loop, 7, Steps.NOTE, 0, 1, Steps.POST, 8, 2);
        Steps.define(loop, 8, Steps.NOTE, 0, 1);
        for (int i = 0; i < 6; i++) {
            loop.step(FULL_FUNCTION, Steps.NOTE, 90 + i, 0);
        }
        for (int i = 0; i < 34; i++) {
            loop.post(2, FULL_FUNCTION, 0);
        }
    }

    private static void compare(Check check, String behind, PromiseLoop loop, PromiseLoop twin) {
        check.same("time() behind " + behind, loop.time(), twin.time());
        for (int r = 0; r < 8; r++) {
            check.same("register(" + r + ") behind " + behind, loop.register(r), twin.register(r));
        }
        for (int which = 0; which <= 6; which++) {
            check.same("count(" + which + ") behind " + behind, loop.count(which),
                    twin.count(which));
        }
        for (int t = 0; t <= 20; t++) {
            check.same("due(" + t + ") behind " + behind, loop.due(t), twin.due(t));
        }
        int promises = twin.count(0);
        for (int p = 0; p < promises; p++) {
            check.same("state(" + p + ") behind " + behind, loop.state(p), twin.state(p));
        }
        compareJournals(check, behind, loop, twin);
        for (int f = 0; f < FULL_FUNCTION; f++) {
            int number = f;
            Call call = one -> one.step(number, Steps.NOTE, 0, 0);
            check.same("step of " + f + " behind " + behind, answer(call, loop),
                    answer(call, twin));
        }
    }

    private static void compareJournals(Check check, String behind, PromiseLoop loop,
            PromiseLoop twin) {
        int logged = twin.count(5);
        for (int i = 0; i < logged; i++) {
            check.same("logged(" + i + ") behind " + behind, loop.logged(i), twin.logged(i));
        }
        int reported = twin.count(6);
        for (int i = 0; i < reported; i++) {
            check.same("reported(" + i + ") behind " + behind, loop.reported(i),
                    twin.reported(i));
        }
    }
}
