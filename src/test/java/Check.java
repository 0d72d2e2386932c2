import java.util.Timer;
import java.util.TimerTask;

/** Compares what a call answers with what is due, and counts what differs. */
final class Check {

    interface Call {
        long answer();
    }

    /** Far above what the tests take: it ends those of a program that does not end. */
    private static final long LIMIT = 300_000;

    private int wrong;
    private int done;

    Check() {
        Timer timer = new Timer(true);
        timer.schedule(new TimerTask() {
            @Override
            public void run() {
                System.out.println("a call does not end");
                Runtime.getRuntime().halt(1);
            }
        }, LIMIT);
    }

    void due(String name, long want, Call call) {
        done++;
        long got;
        try {
            got = call.answer();
        } catch (RuntimeException e) {
            report(name + " threw " + e + ", due is " + want);
            return;
        }
        if (got != want) {
            report(name + " answered " + got + ", due is " + want);
        }
    }

    /** An exception of the very class that is due, thrown by the program and not by the machine. */
    void dueThrow(String name, Class<? extends RuntimeException> want, Call call) {
        done++;
        try {
            long got = call.answer();
            report(name + " answered " + got + ", due is " + want.getSimpleName());
        } catch (RuntimeException e) {
            if (e.getClass() != want) {
                report(name + " threw " + e + ", due is " + want.getSimpleName());
            }
        }
    }

    void range(String name, Call call) {
        dueThrow(name, IndexOutOfBoundsException.class, call);
    }

    void argument(String name, Call call) {
        dueThrow(name, IllegalArgumentException.class, call);
    }

    void state(String name, Call call) {
        dueThrow(name, IllegalStateException.class, call);
    }

    int done() {
        return done;
    }

    void report(String what) {
        wrong++;
        if (wrong <= 40) {
            System.out.println(what);
        }
    }

    void finish(String name) {
        System.out.println(name + ": " + done + " answers looked at, " + wrong + " wrong");
        if (wrong != 0) {
            System.exit(1);
        }
    }
}
