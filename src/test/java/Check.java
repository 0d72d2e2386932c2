/** Compares what a call answers with what is due, and counts what differs. */
final class Check {

    interface Call {
        long answer();
    }

    private int wrong;
    private int done;

    void due(String name, long want, Call call) {
        long got;
        try {
            got = call.answer();
        } catch (RuntimeException e) {
            report(name + " threw " + e + ", due is " + want);
            return;
        }
        done++;
        if (got != want) {
            report(name + " answered " + got + ", due is " + want);
        }
    }

    /** An exception of the very class that is due, thrown by the program and not by the machine. */
    void dueThrow(String name, Class<? extends RuntimeException> want, Call call) {
        done++;
        try {
            long got = call.answer();
            report(name + " answered " + got + ", due is " + want.getSimpleName());
        } catch (RuntimeException e) {
            if (e.getClass() != want) {
                report(name + " threw " + e + ", due is " + want.getSimpleName());
            }
        }
    }

    void range(String name, Call call) {
        dueThrow(name, IndexOutOfBoundsException.class, call);
    }

    void argument(String name, Call call) {
        dueThrow(name, IllegalArgumentException.class, call);
    }

    void state(String name, Call call) {
        dueThrow(name, IllegalStateException.class, call);
    }

    void report(String what) {
        wrong++;
        if (wrong <= 40) {
            System.out.println(what);
        }
    }

    void finish(String name) {
        System.out.println(name + ": " + done + " answers looked at, " + wrong + " wrong");
        if (wrong != 0) {
            System.exit(1);
        }
    }
}
