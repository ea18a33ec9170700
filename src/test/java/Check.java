/** Compares answers with those that are due, prints each that differs, and ends the test. */
final class Check {
    private final String name;
    private int done = 0;
    private int wrong = 0;

    Check(String name) {
        this.name = name;
    }

    void same(String what, int got, int due) {
        done++;
        if (got != due) {
            wrong++;
            System.out.println(name + ": " + what + " answered " + got + ", due is " + due);
        }
    }

    void illegalArgument(String what, Runnable call) {
        fails(what, call, IllegalArgumentException.class);
    }

    void illegalState(String what, Runnable call) {
        fails(what, call, IllegalStateException.class);
    }

    void outOfBounds(String what, Runnable call) {
        fails(what, call, IndexOutOfBoundsException.class);
    }

    void fails(String what, Runnable call, Class<? extends RuntimeException> due) {
        done++;
        String got = "nothing";
        try {
            call.run();
        } catch (RuntimeException e) {
            if (e.getClass() == due) {
                return;
            }
            got = e.getClass().getSimpleName();
        }
        wrong++;
        System.out.println(
                name + ": " + what + " threw " + got + ", due is " + due.getSimpleName());
    }

    /** All that was logged, in its order. */
    void log(String what, PromiseLoop loop, int... due) {
        same(what + ": how many were logged", loop.count(5), due.length);
        for (int i = 0; i < due.length && i < loop.count(5); i++) {
            same(what + ": logged(" + i + ")", loop.logged(i), due[i]);
        }
    }

    /** All that was reported, in its order. */
    void reports(String what, PromiseLoop loop, int... due) {
        same(what + ": how many were reported", loop.count(6), due.length);
        for (int i = 0; i < due.length && i < loop.count(6); i++) {
            same(what + ": reported(" + i + ")", loop.reported(i), due[i]);
        }
    }

    void end() {
        System.out.println(name + ": " + done + " answers, " + wrong + " wrong");
        if (wrong != 0 || done == 0) {
            System.exit(1);
        }
    }
}
