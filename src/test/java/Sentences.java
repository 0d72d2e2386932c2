import java.util.ArrayList;
import java.util.List;

/**
 * Tests of single sentences of the document: each stands under the section it belongs to (a promise, or a part of
 * the terms), quotes the sentence, and makes the calls that would answer otherwise if the sentence were broken.
 */
abstract class Sentences {

    static final int NONE = CurbCars.NONE;
    static final int LOWEST = Integer.MIN_VALUE;
    static final int HIGHEST = Integer.MAX_VALUE;

    interface Body {
        void run();
    }

    interface Numbered {
        long answer(int n);
    }

    record Sentence(String section, String words, Body body) {
    }

    private final List<Sentence> all = new ArrayList<>();
    private final Check check;
    private String section = "";
    private String running = "";

    Sentences(Check check) {
        this.check = check;
    }

    // ---- what a test is made of

    final void section(String name) {
        section = name;
    }

    final void test(String words, Body body) {
        all.add(new Sentence(section, words, body));
    }

    final void is(String call, long want, long got) {
        check.due(running + call, want, () -> got);
    }

    final void range(String call, Check.Call c) {
        check.range(running + call, c);
    }

    final void argument(String call, Check.Call c) {
        check.argument(running + call, c);
    }

    final void state(String call, Check.Call c) {
        check.state(running + call, c);
    }

    /** The numbers beside low to high, and those far off, are refused with IllegalArgumentException. */
    final void argumentOutside(String call, int low, int high, Numbered c) {
        for (int n : outside(low, high)) {
            argument(call + " with " + n, () -> c.answer(n));
        }
    }

    /** The numbers beside low to high, and those far off, are refused with IndexOutOfBoundsException. */
    final void rangeOutside(String call, int low, int high, Numbered c) {
        for (int n : outside(low, high)) {
            range(call + " with " + n, () -> c.answer(n));
        }
    }

    private static int[] outside(int low, int high) {
        return new int[] {low - 1, high + 1, low - 1000, high + 1000, LOWEST, HIGHEST};
    }

    // ---- running them

    final void runAll() {
        for (Sentence s : all) {
            running = s.section() + ", \"" + s.words() + "\": ";
            int before = check.done();
            try {
                s.body().run();
            } catch (RuntimeException e) {
                check.report(running + "threw " + e);
            }
            if (check.done() == before) {
                check.report(running + "looks at no answer");
            }
        }
    }

    final List<Sentence> sentences() {
        return all;
    }

    // ---- streets

    static void write(CurbCars x, String text) {
        for (int i = 0; i < text.length(); i++) {
            x.append(text.charAt(i));
        }
    }

    static CurbCars written(String text) {
        CurbCars x = new CurbCars();
        write(x, text);
        return x;
    }

    static CurbCars street(String text) {
        CurbCars x = written(text);
        x.load();
        return x;
    }

    /** A street whose hydrants leave only the cells from low to high free; high below low leaves none. */
    static CurbCars only(int low, int high) {
        CurbCars x = new CurbCars();
        for (int cell = 0; cell < 80; cell++) {
            if (cell < low || cell > high) {
                x.hydrant(cell, true);
            }
        }
        return x;
    }

    static CurbCars full() {
        return only(0, -1);
    }

    static void hydrants(CurbCars x, int... cells) {
        for (int cell : cells) {
            x.hydrant(cell, true);
        }
    }

    /** A street on which 40 cars came; none of them is parked any more, and none goes round. */
    static CurbCars withFortyGone() {
        CurbCars x = new CurbCars();
        for (int c = 0; c < 40; c++) {
            x.come(2, 1);
        }
        x.minutes(10);
        return x;
    }

    /** Lets more minutes go by than one call can. */
    static void wait(CurbCars x, int minutes) {
        for (int left = minutes; left > 0; left -= 60) {
            x.minutes(Math.min(left, 60));
        }
    }

    // ---- all that can be seen of a state

    /** Where the cells begin in what look answers. */
    static final int CELLS_SEEN = 12;

    /** Of every car the place, state and minutes; of the street the numbers, cells and settings; places by the rule. */
    static int[] look(CurbCars x) {
        int came = x.about(0);
        int[] seen = new int[CELLS_SEEN + 80 + 6 * came + 3 + 7];
        int n = 0;
        for (int what = 0; what < 12; what++) {
            seen[n++] = x.about(what);
        }
        for (int cell = 0; cell < 80; cell++) {
            seen[n++] = x.at(cell);
        }
        for (int c = 0; c < came; c++) {
            for (int what = 0; what < 6; what++) {
                seen[n++] = x.carOf(c, what);
            }
        }
        for (int what = 0; what < 3; what++) {
            seen[n++] = x.setting(what);
        }
        for (int length = 2; length <= 8; length++) {
            seen[n++] = x.place(length);
        }
        return seen;
    }

    final void sameLook(String when, int[] want, int[] got) {
        is(when + ": how many numbers are seen", want.length, got.length);
        for (int i = 0; i < want.length && i < got.length; i++) {
            is(when + ": number " + i + " of what is seen", want[i], got[i]);
        }
    }

    // ---- chance

    private static final long FACTOR = 6364136223846793005L;
    private static final long ADDEND = 1442695040888963407L;

    static long next(long chance) {
        return chance * FACTOR + ADDEND;
    }

    static int drawn(long chance) {
        return (int) (chance >>> 33);
    }

    /** The seed from which the first turn draws r, the bits below it being as told. */
    static long seedFor(long r, long below) {
        long inverse = FACTOR;
        for (int i = 0; i < 6; i++) {
            // each step doubles the bits in which it is the inverse
            inverse *= 2 - FACTOR * inverse;
        }
        return ((r << 33 | below) - ADDEND) * inverse;
    }
}
