import java.util.ArrayDeque;
import java.util.ArrayList;
import java.util.Comparator;
import java.util.List;
import java.util.TreeMap;

/**
 * The document told a second time, with objects, lists and exceptions in the place of rows, so that
 * a slip in one of the two shows where they differ.
 */
final class Model {
    private final List<List<int[]>> functions = new ArrayList<>();
    private final Promise[] registers = new Promise[8];
    private final List<Promise> promises = new ArrayList<>();
    private final List<ArrayDeque<Task>> tasks = new ArrayList<>();
    private final ArrayDeque<Task> microtasks = new ArrayDeque<>();
    private final TreeMap<Integer, Timer> timers = new TreeMap<>();
    private final ArrayDeque<Integer> frames = new ArrayDeque<>();
    private final List<Integer> log = new ArrayList<>();
    private final List<Integer> reports = new ArrayList<>();
    private List<Promise> unhandled = new ArrayList<>();
    private int timersMade = 0;
    private int preferred = 0;
    private int time = 0;
    private boolean framesDue = false;
    private int begun;
    private int called;

    Model() {
        for (int f = 0; f < 10; f++) {
            functions.add(new ArrayList<>());
        }
        for (int source = 0; source < 3; source++) {
            tasks.add(new ArrayDeque<>());
        }
    }

    /** A task or a microtask. */
    private interface Task {
        boolean beginsRun();

        void perform();
    }

    private final class FunctionTask implements Task {
        private final int f;
        private final int x;

        FunctionTask(int f, int x) {
            this.f = f;
            this.x = x;
        }

        @Override
        public boolean beginsRun() {
            return true;
        }

        @Override
        public void perform() {
            runReported(f, x, 0);
        }
    }

    private final class Timer implements Task {
        private final int number;
        private final int f;
        private final int x;
        private final int delay;
        private final boolean repeats;
        private int level;
        private int due;
        private boolean waits;

        Timer(int number, int f, int x, int delay, boolean repeats, int level) {
            this.number = number;
            this.f = f;
            this.x = x;
            this.delay = delay;
            this.repeats = repeats;
            this.level = level;
            schedule();
        }

        private void schedule() {
            int counted = delay;
            if (counted < 4 && level > 5) {
                counted = 4;
            }
            if (counted == 0) {
                counted = 1;
            }
            due = time + counted;
            waits = false;
        }

        private boolean isThere() {
            return timers.containsKey(number);
        }

        @Override
        public boolean beginsRun() {
            return isThere();
        }

        @Override
        public void perform() {
            if (!isThere()) {
                return;
            }
            if (!repeats) {
                timers.remove(number);
            }
            runReported(f, x, level);
            if (repeats && isThere()) {
                level++;
                schedule();
            }
        }
    }

    private final class Reaction implements Task {
        private final Promise source;
        private final Promise target;
        private final boolean follows;
        private final int forValue;
        private final int forReason;

        Reaction(Promise source, Promise target, boolean follows, int forValue, int forReason) {
            this.source = source;
            this.target = target;
            this.follows = follows;
            this.forValue = forValue;
            this.forReason = forReason;
        }

        private int function() {
            return source.state == 1 ? forValue : forReason;
        }

        @Override
        public boolean beginsRun() {
            return !follows && function() < 10;
        }

        @Override
        public void perform() {
            if (follows) {
                target.settle(source.state, source.number);
            } else if (!beginsRun()) {
                if (source.state == 1) {
                    target.resolve(source.number);
                } else {
                    target.reject(source.number);
                }
            } else {
                performRun();
            }
        }

        private void performRun() {
            try {
                target.resolve(begin(function(), source.number, 0));
            } catch (Failure e) {
                target.reject(e.number);
            }
        }
    }

    private final class Promise {
        private final int index = promises.size();
        private int state = 0;
        private int number = 0;
        private boolean resolved = false;
        private boolean handled = false;
        private boolean reported = false;
        private final List<Reaction> waiting = new ArrayList<>();

        void settle(int as, int with) {
            state = as;
            number = with;
            microtasks.addAll(waiting);
            waiting.clear();
            if (as == 2 && !handled) {
                unhandled.add(this);
            }
        }

        void reject(int with) {
            if (!resolved) {
                resolved = true;
                settle(2, with);
            }
        }

        void resolve(Object with) {
            if (resolved) {
                return;
            }
            resolved = true;
            if (with == this) {
                settle(2, -3);
            } else if (with instanceof Promise) {
                microtasks.add(new Following(this, (Promise) with));
            } else {
                settle(1, (Integer) with);
            }
        }

        void put(Reaction reaction) {
            if (!handled && reported) {
                report(3, index);
            }
            handled = true;
            if (state == 0) {
                waiting.add(reaction);
            } else {
                microtasks.add(reaction);
            }
        }
    }

    private final class Following implements Task {
        private final Promise one;
        private final Promise other;

        Following(Promise one, Promise other) {
            this.one = one;
            this.other = other;
        }

        @Override
        public boolean beginsRun() {
            return false;
        }

        @Override
        public void perform() {
            other.put(new Reaction(other, one, true, 10, 10));
        }
    }

    private static final class Failure extends Exception {
        private static final long serialVersionUID = 1;
        private final int number;

        Failure(int number) {
            super(null, null, false, false);
            this.number = number;
        }
    }

    /** Ends a turn that would begin a run too many. */
    private static final class Cut extends Exception {
        private static final long serialVersionUID = 1;
    }

    private void report(int kind, int number) {
        if (reports.size() < 200) {
            reports.add(number + 10000 * kind);
        }
    }

    private void note(int number) {
        if (log.size() < 200) {
            log.add(number);
        }
    }

    private Object begin(int f, int x, int level) throws Failure {
        begun++;
        called = 0;
        return run(f, x, 1, level);
    }

    private void runReported(int f, int x, int level) {
        try {
            begin(f, x, level);
        } catch (Failure e) {
            report(1, e.number);
        }
    }

    private Object run(int f, int x, int depth, int level) throws Failure {
        Object result = 0;
        for (int[] step : functions.get(f)) {
            int a = step[1];
            int b = step[2];
            int chosen = b == 1 ? x : a;
            switch (step[0]) {
                case 0 -> note(chosen);
                case 1 -> {
                    room(waiting(), 40);
                    tasks.get(b).add(new FunctionTask(a, x));
                }
                case 2 -> {
                    room(microtasks.size(), 60);
                    microtasks.add(new FunctionTask(a, x));
                }
                case 3, 4 -> {
                    room(timers.size(), 12);
                    timersMade++;
                    timers.put(timersMade,
                            new Timer(timersMade, a, x, b, step[0] == 4, level + 1));
                }
                case 5 -> timers.remove(a);
                case 6 -> throw new Failure(chosen);
                case 7 -> result = call(a, x, depth, level);
                case 8 -> result = attempt(a, b, x, depth, level);
                case 9 -> result = b != 2 ? chosen : registers[a] == null ? 0 : registers[a];
                case 14 -> {
                    room(frames.size(), 8);
                    frames.add(a);
                }
                default -> promiseStep(step[0], a, b, x);
            }
        }
        return result;
    }

    private void promiseStep(int code, int a, int b, int x) throws Failure {
        Promise one = registers[a];
        if (code == 10) {
            registers[a] = makePromise();
        } else if (code == 15) {
            registers[a] = registers[b];
        } else if (one == null) {
            return;
        } else if (code == 11 && b == 1) {
            one.reject(x);
        } else if (code == 11) {
            one.resolve(x);
        } else if (code == 12 && registers[b] != null) {
            one.resolve(registers[b]);
        } else if (code == 13) {
            registers[a] = makePromise();
            one.put(new Reaction(one, registers[a], false, b % 16, b / 16));
        }
    }

    private Promise makePromise() throws Failure {
        room(promises.size(), 40);
        Promise made = new Promise();
        promises.add(made);
        return made;
    }

    private static void room(int there, int most) throws Failure {
        if (there >= most) {
            throw new Failure(-2);
        }
    }

    private Object call(int f, int x, int depth, int level) throws Failure {
        if (depth >= 6 || called >= 30) {
            throw new Failure(-1);
        }
        called++;
        return run(f, x, depth + 1, level);
    }

    private Object attempt(int f, int handler, int x, int depth, int level) throws Failure {
        if (depth >= 6 || called >= 30) {
            throw new Failure(-1);
        }
        try {
            return call(f, x, depth, level);
        } catch (Failure e) {
            return call(handler, e.number, depth, level);
        }
    }

    private int waiting() {
        return tasks.get(0).size() + tasks.get(1).size() + tasks.get(2).size();
    }

    private void perform(ArrayDeque<Task> line) throws Cut {
        if (line.getFirst().beginsRun() && begun == 50) {
            throw new Cut();
        }
        line.removeFirst().perform();
    }

    private void checkpoint() throws Cut {
        while (!microtasks.isEmpty()) {
            perform(microtasks);
        }
        List<Promise> taken = unhandled;
        unhandled = new ArrayList<>();
        for (Promise p : taken) {
            if (!p.handled) {
                p.reported = true;
                report(2, p.index);
            }
        }
    }

    private void doTask() throws Cut {
        int[] sources = {preferred, 0, 1, 2};
        for (int source : sources) {
            if (!tasks.get(source).isEmpty()) {
                perform(tasks.get(source));
                checkpoint();
                return;
            }
        }
    }

    private void doFrames() throws Cut {
        int taken = frames.size();
        for (int i = 0; i < taken; i++) {
            if (begun == 50) {
                throw new Cut();
            }
            runReported(frames.removeFirst(), time, 0);
            framesDue = i < taken - 1;
            checkpoint();
        }
        framesDue = false;
    }

    private static boolean isIn(int n, int least, int most) {
        return n >= least && n <= most;
    }

    private static void need(boolean held) {
        if (!held) {
            throw new IllegalArgumentException();
        }
    }

    private static void index(boolean held) {
        if (!held) {
            throw new IndexOutOfBoundsException();
        }
    }

    private static void state(boolean held) {
        if (!held) {
            throw new IllegalStateException();
        }
    }

    /** The kinds of a and b for each code: f, r, s, d, n, c (0 or 1), t (THEN's b), * (any). */
    private static final String[] KNOWN = {
        "nc", "fs", "f*", "fd", "fd", "n*", "nc", "f*", "ff", "nc", "r*", "rc", "rr", "rt", "f*",
        "rr"};

    private static boolean fits(char kind, int n) {
        return switch (kind) {
            case 'f' -> isIn(n, 0, 9);
            case 'r' -> isIn(n, 0, 7);
            case 's' -> isIn(n, 0, 2);
            case 'd' -> isIn(n, 0, 200);
            case 'n' -> isIn(n, -999, 999);
            case 'c' -> isIn(n, 0, 1);
            case 't' -> isIn(n, 0, 255);
            default -> true;
        };
    }

    int step(int f, int code, int a, int b) {
        need(isIn(f, 0, 9) && isIn(code, 0, 15));
        if (code == 9 && b == 2) {
            need(fits('r', a));
        } else {
            need(fits(KNOWN[code].charAt(0), a) && fits(KNOWN[code].charAt(1), b));
        }
        state(functions.get(f).size() < 6);
        functions.get(f).add(new int[] {code, a, b});
        return functions.get(f).size();
    }

    int clear(int f) {
        need(isIn(f, 0, 9));
        functions.get(f).clear();
        return 0;
    }

    int post(int source, int f, int x) {
        need(isIn(source, 0, 2) && isIn(f, 0, 9));
        state(waiting() < 40);
        tasks.get(source).add(new FunctionTask(f, x));
        return waiting();
    }

    int prefer(int source) {
        need(isIn(source, 0, 2));
        preferred = source;
        return 0;
    }

    int turn() {
        begun = 0;
        try {
            checkpoint();
            doTask();
            if (framesDue) {
                doFrames();
            }
        } catch (Cut e) {
            return begun;
        }
        return begun;
    }

    int advance(int n) {
        need(isIn(n, 1, 100));
        for (int i = 0; i < n; i++) {
            time++;
            framesDue |= time % 16 == 0;
            timers.values().stream()
                    .filter(t -> !t.waits && t.due == time)
                    .sorted(Comparator.comparingInt(t -> t.number))
                    .forEach(t -> {
                        t.waits = true;
                        tasks.get(1).add(t);
                    });
        }
        return time;
    }

    int register(int r) {
        index(isIn(r, 0, 7));
        return registers[r] == null ? -1 : registers[r].index;
    }

    int state(int p) {
        index(isIn(p, 0, promises.size() - 1));
        Promise one = promises.get(p);
        return one.state + (one.resolved ? 4 : 0) + (one.handled ? 8 : 0);
    }

    int value(int p) {
        index(isIn(p, 0, promises.size() - 1));
        state(promises.get(p).state != 0);
        return promises.get(p).number;
    }

    int count(int which) {
        need(isIn(which, 0, 6));
        int[] counts = {promises.size(), waiting(), microtasks.size(), timers.size(),
            frames.size(), log.size(), reports.size()};
        return counts[which];
    }

    int logged(int i) {
        index(isIn(i, 0, log.size() - 1));
        return log.get(i);
    }

    int reported(int i) {
        index(isIn(i, 0, reports.size() - 1));
        return reports.get(i);
    }

    int due(int t) {
        Timer timer = timers.get(t);
        return timer == null ? -1 : timer.waits ? -2 : timer.due;
    }

    int time() {
        return time;
    }
}
