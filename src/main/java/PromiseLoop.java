/**
 * Runs small functions by tasks of three sources, microtasks, timers, frames and promises, turn by
 * turn, on a clock that is set forward; what fails is caught where something waits for it, or
 * reported.
 *
 * <p>All rows are made with the object and used again, so that no call makes anything.
 */
public final class PromiseLoop {
    private static final int FUNCTIONS = 10;
    private static final int STEPS = 6;
    private static final int REGISTERS = 8;
    private static final int PROMISES = 40;
    private static final int SOURCES = 3;
    private static final int TASKS = 40;
    private static final int MICROTASKS = 60;
    private static final int TIMERS = 12;
    private static final int FRAMES = 8;
    private static final int KEPT = 200;
    private static final int DEEPEST = 6;
    private static final int CALLS_A_RUN = 30;
    private static final int RUNS_A_TURN = 50;
    private static final int LARGEST_NUMBER = 999;
    private static final int LONGEST_DELAY = 200;
    private static final int LONGEST_ADVANCE = 100;
    private static final int FRAME_TIME = 16;

    // Each promise is made by at most one THEN and follows at most one other promise.
    private static final int REACTIONS = 2 * PROMISES;
    // Beside one job for each reaction there is one for each promise that follows another.
    private static final int JOBS = REACTIONS + PROMISES;
    // The task of a cancelled timer goes on waiting, and CANCEL knows no timer above 999.
    private static final int TIMER_TASKS = LARGEST_NUMBER + TIMERS;
    // Far above the 50 runs and 120 jobs that one checkpoint can meet.
    private static final int MICROTASKS_A_CHECKPOINT = 1000;

    private static final int NOTE = 0;
    private static final int POST = 1;
    private static final int MICRO = 2;
    private static final int WAIT = 3;
    private static final int EVERY = 4;
    private static final int CANCEL = 5;
    private static final int FAIL = 6;
    private static final int CALL = 7;
    private static final int TRY = 8;
    private static final int ANSWER = 9;
    private static final int MAKE = 10;
    private static final int SETTLE = 11;
    private static final int FOLLOW = 12;
    private static final int THEN = 13;
    private static final int FRAME = 14;
    private static final int COPY = 15;

    private static final int FAILED_CALL = -1;
    private static final int FAILED_FULL = -2;
    private static final int FAILED_SELF = -3;

    private static final int REPORT_UNIT = 10000;
    private static final int REPORT_FAILED = 1;
    private static final int REPORT_UNHANDLED = 2;
    private static final int REPORT_HANDLED_LATE = 3;

    private static final int PENDING = 0;
    private static final int FULFILLED = 1;
    private static final int REJECTED = 2;
    private static final int RESOLVED_FLAG = 4;
    private static final int HANDLED_FLAG = 8;

    private static final int NOTHING = -1;
    private static final int GONE = -1;
    private static final int TASK_WAITS = -2;
    private static final int TIMER_SOURCE = 1;
    // Stands in a reaction where a THEN has its functions, so it is none of the numbers they take.
    private static final int SETTLING = 16;

    // What an entry of a line is for.
    private static final int FOR_FUNCTION = 0;
    private static final int FOR_TIMER = 1;
    private static final int FOR_REACTION = 2;
    private static final int FOR_FOLLOWING = 3;

    private final Functions functions = new Functions();
    private final int[] registers = new int[REGISTERS];
    private final Line[] tasks = {new Line(TASKS), new Line(TASKS + TIMER_TASKS), new Line(TASKS)};
    private final Line microtasks = new Line(MICROTASKS + JOBS);
    private final Line frames = new Line(FRAMES);
    private final Journal log = new Journal();
    private final Journal reports = new Journal();
    private final Promises promises = new Promises(microtasks, reports);
    private final Timers timers = new Timers();
    private int preferred = 0;
    private int clock = 0;
    private boolean framesDue = false;

    private int begun = 0;
    private int called = 0;
    private int timerLevel = 0;

    // How the latest run stands. A run that goes on after a CALL or TRY has the result of the run
    // that these began, so one set of fields serves all that are open.
    private boolean failed = false;
    private boolean resultIsPromise = false;
    private int result = 0;

    public PromiseLoop() {
        for (int r = 0; r < REGISTERS; r++) {
            registers[r] = NOTHING;
        }
    }

    public int step(int f, int code, int a, int b)
            throws IllegalArgumentException, IllegalStateException {
        if (!isFunction(f) || !isKnown(code, a, b)) {
            throw new IllegalArgumentException("no such function, code or number");
        }
        if (functions.length(f) >= STEPS) {
            throw new IllegalStateException("the function is full");
        }
        functions.add(f, code, a, b);
        return functions.length(f);
    }

    public void clear(int f) throws IllegalArgumentException {
        if (!isFunction(f)) {
            throw new IllegalArgumentException("no such function");
        }
        functions.empty(f);
    }

    public int post(int source, int f, int x)
            throws IllegalArgumentException, IllegalStateException {
        if (!isSource(source) || !isFunction(f)) {
            throw new IllegalArgumentException("no such source or function");
        }
        if (waitingTasks() >= TASKS) {
            throw new IllegalStateException("too many tasks wait");
        }
        tasks[source].put(FOR_FUNCTION, f, x);
        return waitingTasks();
    }

    public void prefer(int source) throws IllegalArgumentException {
        if (!isSource(source)) {
            throw new IllegalArgumentException("no such source");
        }
        preferred = source;
    }

    public int turn() {
        begun = 0;
        boolean goesOn = checkpoint() && doTask() && checkpoint();
        int taken = goesOn && framesDue ? frames.size() : 0;
        if (goesOn && taken == 0) {
            framesDue = false;
        }
        for (int left = taken; goesOn && left > 0; left--) {
            goesOn = doFrame(left == 1) && checkpoint();
        }
        return begun;
    }

    public int advance(int n) throws IllegalArgumentException {
        if (!isWithin(n, 1, LONGEST_ADVANCE)) {
            throw new IllegalArgumentException("not a length of time to set the clock forward");
        }
        int before = clock;
        clock += n;
        if (clock / FRAME_TIME != before / FRAME_TIME) {
            framesDue = true;
        }
        timers.putTasks(clock, tasks[TIMER_SOURCE]);
        return clock;
    }

    public int register(int r) throws IndexOutOfBoundsException {
        if (!isRegister(r)) {
            throw new IndexOutOfBoundsException("no such register");
        }
        return registers[r];
    }

    public int state(int p) throws IndexOutOfBoundsException {
        if (!promises.has(p)) {
            throw new IndexOutOfBoundsException("no such promise");
        }
        return promises.stateWithFlags(p);
    }

    public int value(int p) throws IndexOutOfBoundsException, IllegalStateException {
        if (!promises.has(p)) {
            throw new IndexOutOfBoundsException("no such promise");
        }
        if (promises.stateOf(p) == PENDING) {
            throw new IllegalStateException("the promise is pending");
        }
        return promises.numberOf(p);
    }

    public int count(int which) throws IllegalArgumentException {
        switch (which) {
            case 0:
                return promises.size();
            case 1:
                return waitingTasks();
            case 2:
                return microtasks.size();
            case 3:
                return timers.size();
            case 4:
                return frames.size();
            case 5:
                return log.size();
            case 6:
                return reports.size();
            default:
                throw new IllegalArgumentException("nothing is counted under this number");
        }
    }

    public int logged(int i) throws IndexOutOfBoundsException {
        if (!log.has(i)) {
            throw new IndexOutOfBoundsException("not logged");
        }
        return log.at(i);
    }

    public int reported(int i) throws IndexOutOfBoundsException {
        if (!reports.has(i)) {
            throw new IndexOutOfBoundsException("not reported");
        }
        return reports.at(i);
    }

    public int due(int t) {
        return timers.dueOf(t);
    }

    public int time() {
        return clock;
    }

    private static boolean isWithin(int n, int least, int most) {
        return n >= least && n <= most;
    }

    private static boolean isFunction(int f) {
        return isWithin(f, 0, FUNCTIONS - 1);
    }

    private static boolean isRegister(int r) {
        return isWithin(r, 0, REGISTERS - 1);
    }

    private static boolean isSource(int source) {
        return isWithin(source, 0, SOURCES - 1);
    }

    private static boolean isNumber(int n) {
        return isWithin(n, -LARGEST_NUMBER, LARGEST_NUMBER);
    }

    private static boolean isChoice(int n) {
        return isWithin(n, 0, 1);
    }

    private static boolean isKnown(int code, int a, int b) {
        switch (code) {
            case NOTE:
            case FAIL:
                return isNumber(a) && isChoice(b);
            case POST:
                return isFunction(a) && isSource(b);
            case MICRO:
            case CALL:
            case FRAME:
                return isFunction(a);
            case WAIT:
            case EVERY:
                return isFunction(a) && isWithin(b, 0, LONGEST_DELAY);
            case CANCEL:
                return isNumber(a);
            case TRY:
                return isFunction(a) && isFunction(b);
            case ANSWER:
                return b == 2 ? isRegister(a) : isNumber(a) && isChoice(b);
            case MAKE:
                return isRegister(a);
            case SETTLE:
                return isRegister(a) && isChoice(b);
            case FOLLOW:
            case COPY:
                return isRegister(a) && isRegister(b);
            case THEN:
                return isRegister(a) && isWithin(b, 0, 255);
            default:
                return false;
        }
    }

    private int waitingTasks() {
        int waiting = 0;
        for (int source = 0; source < SOURCES; source++) {
            waiting += tasks[source].size();
        }
        return waiting;
    }

    /** Answers whether the turn goes on: not if a microtask would begin one run too many. */
    private boolean checkpoint() {
        for (int i = 0; i < MICROTASKS_A_CHECKPOINT && microtasks.size() > 0; i++) {
            if (begun >= RUNS_A_TURN && microtaskBeginsRun()) {
                return false;
            }
            int kind = microtasks.kind();
            int subject = microtasks.subject();
            int number = microtasks.number();
            microtasks.drop();
            if (kind == FOR_FUNCTION) {
                run(subject, number, 1);
                reportFailure();
            } else if (kind == FOR_REACTION) {
                doReaction(subject);
            } else {
                promises.react(number, SETTLING, SETTLING, subject);
            }
        }
        promises.reportUnhandled();
        return true;
    }

    private boolean microtaskBeginsRun() {
        int kind = microtasks.kind();
        return kind == FOR_FUNCTION
                || kind == FOR_REACTION && isFunction(promises.functionOf(microtasks.subject()));
    }

    private void doReaction(int reaction) {
        int source = promises.sourceOf(reaction);
        int target = promises.targetOf(reaction);
        int state = promises.stateOf(source);
        int number = promises.numberOf(source);
        int f = promises.functionOf(reaction);
        if (f == SETTLING) {
            promises.settle(target, state, number);
        } else if (isFunction(f)) {
            run(f, number, 1);
            settleWithResult(target);
        } else {
            promises.resolveOrReject(target, state, number);
        }
    }

    private void settleWithResult(int target) {
        if (failed) {
            promises.resolveOrReject(target, REJECTED, result);
        } else if (resultIsPromise) {
            promises.follow(target, result);
        } else {
            promises.resolveOrReject(target, FULFILLED, result);
        }
    }

    /** Answers whether the turn goes on: not if the task would begin one run too many. */
    private boolean doTask() {
        int source = sourceOfNextTask();
        if (source == NOTHING) {
            return true;
        }
        Line line = tasks[source];
        int subject = line.subject();
        int number = line.number();
        boolean ofTimer = line.kind() == FOR_TIMER;
        boolean runs = !ofTimer || timers.find(subject) != GONE;
        if (runs && begun >= RUNS_A_TURN) {
            return false;
        }
        line.drop();
        if (ofTimer) {
            doTimer(subject);
        } else {
            run(subject, number, 1);
            reportFailure();
        }
        return true;
    }

    private int sourceOfNextTask() {
        if (tasks[preferred].size() > 0) {
            return preferred;
        }
        for (int source = 0; source < SOURCES; source++) {
            if (tasks[source].size() > 0) {
                return source;
            }
        }
        return NOTHING;
    }

    private void doTimer(int timer) {
        int place = timers.find(timer);
        if (place == GONE) {
            return;
        }
        int f = timers.functionAt(place);
        int x = timers.argumentAt(place);
        timerLevel = timers.levelAt(place);
        if (!timers.repeatsAt(place)) {
            timers.remove(timer);
        }
        run(f, x, 1);
        reportFailure();
        timerLevel = 0;
        timers.restart(timer, clock);
    }

    /** Answers whether the turn goes on: not if the function would be one run too many. */
    private boolean doFrame(boolean last) {
        if (begun >= RUNS_A_TURN) {
            return false;
        }
        int f = frames.subject();
        frames.drop();
        run(f, clock, 1);
        reportFailure();
        if (last) {
            framesDue = false;
        }
        return true;
    }

    /** For a run that nothing waits for: one that a job began settles a promise instead. */
    private void reportFailure() {
        if (failed) {
            reports.keep(REPORT_FAILED * REPORT_UNIT + result);
        }
    }

    private void fail(int number) {
        failed = true;
        result = number;
    }

    private void endWith(int number, boolean isPromise) {
        resultIsPromise = isPromise;
        result = number;
    }

    private void countRun(int depth) {
        if (depth == 1) {
            begun++;
            called = 0;
        } else {
            called++;
        }
    }

    private void run(int f, int x, int depth) {
        countRun(depth);
        failed = false;
        endWith(0, false);
        int length = functions.length(f);
        for (int i = 0; i < length && !failed; i++) {
            doStep(functions.code(f, i), functions.a(f, i), functions.b(f, i), x, depth);
        }
    }

    private void doStep(int code, int a, int b, int x, int depth) {
        switch (code) {
            case NOTE:
                log.keep(b == 1 ? x : a);
                break;
            case POST:
                postStep(b, a, x);
                break;
            case MICRO:
                microStep(a, x);
                break;
            case WAIT:
                timerStep(a, x, b, false);
                break;
            case EVERY:
                timerStep(a, x, b, true);
                break;
            case CANCEL:
                timers.remove(a);
                break;
            case FAIL:
                fail(b == 1 ? x : a);
                break;
            case CALL:
                callStep(a, x, depth);
                break;
            case TRY:
                tryStep(a, b, x, depth);
                break;
            case ANSWER:
                answerStep(a, b, x);
                break;
            case MAKE:
                makeStep(a);
                break;
            case SETTLE:
                promises.resolveOrReject(registers[a], b == 1 ? REJECTED : FULFILLED, x);
                break;
            case FOLLOW:
                promises.follow(registers[a], registers[b]);
                break;
            case THEN:
                thenStep(a, b % 16, b / 16);
                break;
            case FRAME:
                frameStep(a);
                break;
            case COPY:
                registers[a] = registers[b];
                break;
            default:
                break;
        }
    }

    private void postStep(int source, int f, int x) {
        if (waitingTasks() >= TASKS) {
            fail(FAILED_FULL);
        } else {
            tasks[source].put(FOR_FUNCTION, f, x);
        }
    }

    private void microStep(int f, int x) {
        if (microtasks.size() >= MICROTASKS) {
            fail(FAILED_FULL);
        } else {
            microtasks.put(FOR_FUNCTION, f, x);
        }
    }

    private void timerStep(int f, int x, int delay, boolean repeats) {
        if (timers.isFull()) {
            fail(FAILED_FULL);
        } else {
            timers.make(f, x, delay, repeats, timerLevel + 1, clock);
        }
    }

    private void frameStep(int f) {
        if (frames.size() >= FRAMES) {
            fail(FAILED_FULL);
        } else {
            frames.put(FOR_FUNCTION, f, 0);
        }
    }

    private boolean mayCall(int depth) {
        return depth < DEEPEST && called < CALLS_A_RUN;
    }

    private void callStep(int f, int x, int depth) {
        if (mayCall(depth)) {
            run(f, x, depth + 1);
        } else {
            fail(FAILED_CALL);
        }
    }

    private void tryStep(int f, int handler, int x, int depth) {
        if (!mayCall(depth)) {
            fail(FAILED_CALL);
            return;
        }
        run(f, x, depth + 1);
        if (failed) {
            callStep(handler, result, depth);
        }
    }

    private void answerStep(int a, int b, int x) {
        if (b == 2) {
            boolean held = registers[a] != NOTHING;
            endWith(held ? registers[a] : 0, held);
        } else {
            endWith(b == 1 ? x : a, false);
        }
    }

    private void makeStep(int r) {
        if (promises.isFull()) {
            fail(FAILED_FULL);
        } else {
            registers[r] = promises.make();
        }
    }

    private void thenStep(int r, int forValue, int forReason) {
        if (registers[r] == NOTHING) {
            return;
        }
        if (promises.isFull()) {
            fail(FAILED_FULL);
            return;
        }
        int made = promises.make();
        promises.react(registers[r], forValue, forReason, made);
        registers[r] = made;
    }

    /** The steps of all functions. */
    private static final class Functions {
        private final int[] lengths = new int[FUNCTIONS];
        private final int[] codes = new int[FUNCTIONS * STEPS];
        private final int[] firsts = new int[FUNCTIONS * STEPS];
        private final int[] seconds = new int[FUNCTIONS * STEPS];

        int length(int f) {
            return lengths[f];
        }

        int code(int f, int i) {
            return codes[f * STEPS + i];
        }

        int a(int f, int i) {
            return firsts[f * STEPS + i];
        }

        int b(int f, int i) {
            return seconds[f * STEPS + i];
        }

        void empty(int f) {
            lengths[f] = 0;
        }

        void add(int f, int code, int a, int b) {
            if (lengths[f] >= STEPS) {
                return;
            }
            int at = f * STEPS + lengths[f];
            codes[at] = code;
            firsts[at] = a;
            seconds[at] = b;
            lengths[f]++;
        }
    }

    /** The first numbers of all that it is told. */
    private static final class Journal {
        private final int[] numbers = new int[KEPT];
        private int size = 0;

        int size() {
            return size;
        }

        boolean has(int i) {
            return i >= 0 && i < size;
        }

        int at(int i) {
            return numbers[i];
        }

        void keep(int number) {
            if (size < KEPT) {
                numbers[size] = number;
                size++;
            }
        }
    }

    /**
     * What waits, first in, first out. The room that it is given is as much as can ever wait there,
     * so nothing is turned away.
     */
    private static final class Line {
        private final int room;
        private final int[] kinds;
        private final int[] subjects;
        private final int[] numbers;
        private int first = 0;
        private int size = 0;

        Line(int room) {
            this.room = room;
            kinds = new int[room];
            subjects = new int[room];
            numbers = new int[room];
        }

        int size() {
            return size;
        }

        int kind() {
            return kinds[first];
        }

        int subject() {
            return subjects[first];
        }

        int number() {
            return numbers[first];
        }

        void put(int kind, int subject, int number) {
            if (size >= room) {
                return;
            }
            int at = first + size < room ? first + size : first + size - room;
            kinds[at] = kind;
            subjects[at] = subject;
            numbers[at] = number;
            size++;
        }

        void drop() {
            if (size > 0) {
                first = first + 1 < room ? first + 1 : 0;
                size--;
            }
        }
    }

    /** The timers that are there, each in one of a few places that are used again. */
    private static final class Timers {
        private static final int FREE = 0;
        private static final int LAST_FREE_LEVEL = 5;
        private static final int LEAST_NESTED_DELAY = 4;
        private static final int LEAST_DELAY = 1;

        private final int[] numbers = new int[TIMERS];
        private final int[] functions = new int[TIMERS];
        private final int[] arguments = new int[TIMERS];
        private final int[] delays = new int[TIMERS];
        private final int[] levels = new int[TIMERS];
        private final int[] dues = new int[TIMERS];
        private final boolean[] repeats = new boolean[TIMERS];
        private final boolean[] waits = new boolean[TIMERS];
        private int made = 0;
        private int size = 0;

        int size() {
            return size;
        }

        boolean isFull() {
            return size >= TIMERS;
        }

        /** Answers the place of a timer, or GONE. */
        int find(int timer) {
            if (timer == FREE) {
                return GONE;
            }
            for (int place = 0; place < TIMERS; place++) {
                if (numbers[place] == timer) {
                    return place;
                }
            }
            return GONE;
        }

        int functionAt(int place) {
            return functions[place];
        }

        int argumentAt(int place) {
            return arguments[place];
        }

        int levelAt(int place) {
            return levels[place];
        }

        boolean repeatsAt(int place) {
            return repeats[place];
        }

        int dueOf(int timer) {
            int place = find(timer);
            if (place == GONE) {
                return GONE;
            }
            return waits[place] ? TASK_WAITS : dues[place];
        }

        void make(int f, int x, int delay, boolean repeating, int level, int now) {
            int place = freePlace();
            if (place == GONE) {
                return;
            }
            made++;
            size++;
            numbers[place] = made;
            functions[place] = f;
            arguments[place] = x;
            delays[place] = delay;
            repeats[place] = repeating;
            start(place, level, now);
        }

        void remove(int timer) {
            int place = find(timer);
            if (place != GONE) {
                numbers[place] = FREE;
                size--;
            }
        }

        /** Does nothing for a timer that is gone, be it by its own run. */
        void restart(int timer, int now) {
            int place = find(timer);
            if (place != GONE) {
                start(place, levels[place] + 1, now);
            }
        }

        void putTasks(int now, Line tasks) {
            for (int i = 0; i < TIMERS; i++) {
                int place = nextDue(now);
                if (place == GONE) {
                    return;
                }
                waits[place] = true;
                tasks.put(FOR_TIMER, numbers[place], 0);
            }
        }

        private int freePlace() {
            for (int place = 0; place < TIMERS; place++) {
                if (numbers[place] == FREE) {
                    return place;
                }
            }
            return GONE;
        }

        private void start(int place, int level, int now) {
            int least = level > LAST_FREE_LEVEL ? LEAST_NESTED_DELAY : LEAST_DELAY;
            levels[place] = level;
            waits[place] = false;
            dues[place] = now + (delays[place] < least ? least : delays[place]);
        }

        private int nextDue(int now) {
            int best = GONE;
            for (int place = 0; place < TIMERS; place++) {
                boolean reached = numbers[place] != FREE && !waits[place] && dues[place] <= now;
                if (reached && (best == GONE || isBefore(place, best))) {
                    best = place;
                }
            }
            return best;
        }

        private boolean isBefore(int place, int other) {
            if (dues[place] != dues[other]) {
                return dues[place] < dues[other];
            }
            return numbers[place] < numbers[other];
        }
    }

    /** All promises and the reactions put to them, numbered in the order in which they came. */
    private static final class Promises {
        private final Line microtasks;
        private final Journal reports;

        private final int[] states = new int[PROMISES];
        private final int[] numbers = new int[PROMISES];
        private final boolean[] resolved = new boolean[PROMISES];
        private final boolean[] handled = new boolean[PROMISES];
        private final boolean[] reported = new boolean[PROMISES];
        private int size = 0;

        private final int[] unhandled = new int[PROMISES];
        private int unhandledSize = 0;

        private final int[] sources = new int[REACTIONS];
        private final int[] targets = new int[REACTIONS];
        private final int[] forValues = new int[REACTIONS];
        private final int[] forReasons = new int[REACTIONS];
        private int reactions = 0;

        Promises(Line microtasks, Journal reports) {
            this.microtasks = microtasks;
            this.reports = reports;
        }

        int size() {
            return size;
        }

        boolean has(int p) {
            return p >= 0 && p < size;
        }

        boolean isFull() {
            return size >= PROMISES;
        }

        int stateOf(int p) {
            return states[p];
        }

        int numberOf(int p) {
            return numbers[p];
        }

        int stateWithFlags(int p) {
            return states[p]
                    + (resolved[p] ? RESOLVED_FLAG : 0)
                    + (handled[p] ? HANDLED_FLAG : 0);
        }

        int sourceOf(int reaction) {
            return sources[reaction];
        }

        int targetOf(int reaction) {
            return targets[reaction];
        }

        /** Answers what fits the way in which its promise was settled, be it no function. */
        int functionOf(int reaction) {
            boolean fulfilled = states[sources[reaction]] == FULFILLED;
            return fulfilled ? forValues[reaction] : forReasons[reaction];
        }

        int make() {
            if (size >= PROMISES) {
                return NOTHING;
            }
            size++;
            return size - 1;
        }

        void resolveOrReject(int p, int state, int number) {
            if (has(p) && !resolved[p]) {
                resolved[p] = true;
                settle(p, state, number);
            }
        }

        void follow(int p, int other) {
            if (!has(p) || !has(other) || resolved[p]) {
                return;
            }
            resolved[p] = true;
            if (p == other) {
                settle(p, REJECTED, FAILED_SELF);
            } else {
                microtasks.put(FOR_FOLLOWING, p, other);
            }
        }

        void settle(int p, int state, int number) {
            states[p] = state;
            numbers[p] = number;
            for (int reaction = 0; reaction < reactions; reaction++) {
                if (sources[reaction] == p) {
                    microtasks.put(FOR_REACTION, reaction, 0);
                }
            }
            if (state == REJECTED && !handled[p] && unhandledSize < PROMISES) {
                unhandled[unhandledSize] = p;
                unhandledSize++;
            }
        }

        void react(int p, int forValue, int forReason, int target) {
            if (!has(p) || reactions >= REACTIONS) {
                return;
            }
            if (reported[p] && !handled[p]) {
                reports.keep(REPORT_HANDLED_LATE * REPORT_UNIT + p);
            }
            handled[p] = true;
            sources[reactions] = p;
            targets[reactions] = target;
            forValues[reactions] = forValue;
            forReasons[reactions] = forReason;
            if (states[p] != PENDING) {
                microtasks.put(FOR_REACTION, reactions, 0);
            }
            reactions++;
        }

        void reportUnhandled() {
            for (int i = 0; i < unhandledSize; i++) {
                int p = unhandled[i];
                if (!handled[p]) {
                    reported[p] = true;
                    reports.keep(REPORT_UNHANDLED * REPORT_UNIT + p);
                }
            }
            unhandledSize = 0;
        }
    }
}
