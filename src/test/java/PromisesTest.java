import java.math.BigInteger;

/** For each promise of ../shared/DOC.md: ordinary inputs, the edges that it names, and wrong inputs. */
public final class PromisesTest {

    private static final Check check = new Check();
    private static final int NONE = CurbCars.NONE;
    private static final int[] BAD_INDEXES = {-1, Integer.MIN_VALUE, Integer.MAX_VALUE};
    private static final int[] BAD_LENGTHS = {-1, 0, 1, 9, 10, Integer.MIN_VALUE, Integer.MAX_VALUE};

    public static void main(String[] args) {
        newObject();
        append();
        clearText();
        errorPosition();
        load();
        about();
        carOf();
        at();
        gap();
        setting();
        hydrant();
        come();
        leave();
        tow();
        move();
        minutes();
        set();
        undo();
        why();
        place();
        fits();
        gapIn();
        mover();
        jam();
        runScript();
        simulate();
        saveAndRestore();
        nothingChanges();
        check.finish("PromisesTest");
    }

    // ---- helpers

    private static void write(CurbCars x, String text) {
        for (int i = 0; i < text.length(); i++) {
            x.append(text.charAt(i));
        }
    }

    private static CurbCars street(String text) {
        CurbCars x = new CurbCars();
        write(x, text);
        x.load();
        return x;
    }

    /** A street whose hydrants leave only the cells from low to high free. */
    private static CurbCars only(int low, int high) {
        CurbCars x = new CurbCars();
        fillOutside(x, low, high);
        return x;
    }

    private static void fillOutside(CurbCars x, int low, int high) {
        for (int cell = 0; cell < 80; cell++) {
            if (cell < low || cell > high) {
                x.hydrant(cell, true);
            }
        }
    }

    private static void dueAbout(String name, CurbCars x, int... want) {
        for (int what = 0; what < want.length; what++) {
            int w = what;
            check.due(name + ": about(" + what + ")", want[what], () -> x.about(w));
        }
    }

    private static void dueCar(String name, CurbCars x, int c, int... want) {
        for (int what = 0; what < want.length; what++) {
            int w = what;
            check.due(name + ": carOf(" + c + ", " + what + ")", want[what], () -> x.carOf(c, w));
        }
    }

    // ---- the promises

    private static void newObject() {
        CurbCars x = new CurbCars();
        dueAbout("1", x, 0, 0, 0, 0, 0, 0, 0, 1, 80, 80, 0, 0);
        for (int cell = 0; cell < 80; cell++) {
            int c = cell;
            check.due("1: at(" + cell + ")", NONE, () -> x.at(c));
        }
        check.due("1: rule", 0, () -> x.setting(0));
        check.due("1: room", 1, () -> x.setting(1));
        check.due("1: patience", 5, () -> x.setting(2));
        check.due("1: no text", 0, x::clearText);
        check.state("1: nothing to undo", x::undo);
        check.state("1: slot 0 is empty", () -> x.restore(0));
        check.state("1: slot 1 is empty", () -> x.restore(1));
        check.due("1: NONE", -1, () -> CurbCars.NONE);
    }

    private static void append() {
        CurbCars x = new CurbCars();
        check.argument("2: c below 0", () -> x.append(-1));
        check.argument("2: c above 255", () -> x.append(256));
        check.argument("2: c lowest", () -> x.append(Integer.MIN_VALUE));
        check.argument("2: c highest", () -> x.append(Integer.MAX_VALUE));
        check.argument("2: c that a char would cut to S", () -> x.append(65536 + 'S'));
        check.due("2: c 0", 1, () -> x.append(0));
        check.due("2: c 255", 2, () -> x.append(255));
        for (int i = 3; i <= 120; i++) {
            check.due("2: length", i, () -> x.append('S'));
        }
        check.state("2: full", () -> x.append('S'));
        check.argument("2: c comes before full", () -> x.append(256));
        check.due("2: all is kept", 120, x::clearText);
    }

    private static void clearText() {
        CurbCars x = new CurbCars();
        check.due("3: empty", 0, x::clearText);
        write(x, "Sr1");
        check.due("3: three", 3, x::clearText);
        check.due("3: is empty then", 0, x::clearText);
        check.due("3: begins anew", 1, () -> x.append('S'));
        check.due("3: nothing of the old is left", NONE, x::errorPosition);
        x.come(3, 4);
        x.clearText();
        check.due("3: leaves the state", 1, () -> x.about(0));
        check.due("3: is no action", 0, x::undo);
    }

    private static void dueError(int want, String text) {
        CurbCars x = new CurbCars();
        write(x, text);
        check.due("4: " + text, want, x::errorPosition);
        if (want == NONE) {
            check.due("4: " + text + " loads", 0, () -> {
                x.load();
                return 0;
            });
        } else {
            check.state("5: " + text + " does not load", x::load);
        }
    }

    private static void errorPosition() {
        for (String good : new String[] {"S", "Sh00+", "Sh79-", "Sc201", "Sc899", "Sc310", "Sl00", "Sl39", "St00", "St39",
            "Sm0000", "Sm3979", "Sr0", "Sr1", "Sr2", "Sp01", "Sp10", "Sp60", "Sp59", "Sh09+c255l09t19m2969r0p09"}) {
            dueError(NONE, good);
            for (int length = 1; length < good.length(); length++) {
                if (good.length() < 7) {
                    dueError(length == 1 ? NONE : length, good.substring(0, length));
                }
            }
        }
        dueError(0, "");
        dueError(0, "s");
        dueError(0, "h00+");
        dueError(0, " S");
        dueError(1, "SS");
        dueError(1, "S ");
        dueError(1, "Sx00");
        dueError(1, "SH00+");
        dueError(1, "S\u0000");
        dueError(1, "S\u00ff");
        dueError(2, "Sh80+");
        dueError(2, "Sh90+");
        dueError(2, "Sh+");
        dueError(3, "Sh7/+");
        dueError(3, "Sh7:+");
        dueError(4, "Sh79*");
        dueError(4, "Sh7900");
        dueError(2, "Sc1");
        dueError(2, "Sc0");
        dueError(2, "Sc9");
        dueError(4, "Sc200");
        dueError(3, "Sc2x");
        dueError(2, "Sl40");
        dueError(2, "St40");
        dueError(3, "Sl3x");
        dueError(2, "Sm4000");
        dueError(4, "Sm3980");
        dueError(5, "Sm397x");
        dueError(2, "Sr3");
        dueError(3, "Sr21");
        dueError(3, "Sp00");
        dueError(3, "Sp61");
        dueError(2, "Sp7");
        dueError(2, "Sp70");
        dueError(5, "Sh00+S");
        dueError(6, "Sh00+h");
        dueError(3, "Sr0 r1");
        dueError(119, "S" + "p01".repeat(39) + "r");
        dueError(NONE, "S" + "p01".repeat(39) + "r2");
        dueError(120, "S" + "r0".repeat(59) + "p");
        CurbCars x = new CurbCars();
        write(x, "Sp60");
        x.errorPosition();
        check.due("4: does nothing", 0, () -> x.about(6));
    }

    private static void load() {
        CurbCars x = new CurbCars();
        x.come(5, 9);
        x.set(0, 2);
        x.set(1, 4);
        x.set(2, 30);
        x.come(4, 9);
        x.hydrant(79, true);
        x.minutes(3);
        x.save(0);
        x.save(1);
        write(x, "S");
        check.due("5: an empty street", 0, x::load);
        dueAbout("5", x, 0, 0, 0, 0, 0, 0, 0, 1, 80, 80, 0, 0);
        check.due("5: rule anew", 0, () -> x.setting(0));
        check.due("5: room anew", 1, () -> x.setting(1));
        check.due("5: patience anew", 5, () -> x.setting(2));
        check.state("5: no state is remembered", x::undo);
        check.state("5: slot 0 is empty", () -> x.restore(0));
        check.state("5: slot 1 is empty", () -> x.restore(1));
        x.set(0, 2);
        check.due("5: the chance is anew", 51, () -> x.place(2));
        check.due("5: keeps the text", 1, x::clearText);

        CurbCars y = new CurbCars();
        write(y, "Sh03+h03+h09+h09-h08-c310c405c310p05m0140m0110t01l02l02c230h10+r1");
        check.due("5: left out: the moves and the tow of car 1, which left, and l02 again", 4, y::load);
        check.due("5: keeps its text", 65, y::clearText);
        dueAbout("5: y", y, 4, 2, 0, 2, 0, 0, 5, 3, 69, 73, 2, 15);

        CurbCars z = new CurbCars();
        z.come(3, 5);
        z.save(0);
        write(z, "Sp61");
        check.state("5: not a street", z::load);
        check.due("5: text kept when it throws", 4, () -> z.clearText());
        check.due("5: the state is kept when it throws", 1, () -> z.about(0));
        check.due("5: the slot is kept when it throws", 0, () -> z.restore(0));
        check.state("5: an empty text is not a street", z::load);

        CurbCars v = new CurbCars();
        write(v, "Sc202l00l00t00t39m0000m0100c305t01t01c305m0200m0278m0240m0277p01");
        check.due("5: left out", 7, v::load);
        dueCar("5: car 0", v, 0, 2, 2, 2, NONE, 0, 0, NONE);
        dueCar("5: car 1", v, 1, 3, 5, 4, NONE, 0, 0, NONE);
        dueCar("5: car 2", v, 2, 3, 5, 0, 77, 1, 0, 4);
        check.due("5: twice the same", 7, v::load);
        check.due("5: twice the same cars", 3, () -> v.about(0));
    }

    private static void about() {
        CurbCars x = new CurbCars();
        check.argument("6: below", () -> x.about(-1));
        check.argument("6: above", () -> x.about(12));
        check.argument("6: lowest", () -> x.about(Integer.MIN_VALUE));
        check.argument("6: highest", () -> x.about(Integer.MAX_VALUE));
        fillOutside(x, 10, 19);
        dueAbout("6: ten cells", x, 0, 0, 0, 0, 0, 0, 0, 1, 10, 10, 70, 0);
        x.come(4, 2);
        x.come(4, 9);
        x.come(4, 9);
        x.come(4, 9);
        dueAbout("6: two park, two go round", x, 4, 2, 2, 0, 0, 0, 0, 1, 2, 2, 70, 0);
        x.minutes(1);
        dueAbout("6: a minute", x, 4, 2, 2, 0, 0, 0, 1, 1, 2, 2, 70, 2);
        x.tow(1);
        dueAbout("6: towed", x, 4, 1, 2, 0, 0, 1, 1, 1, 6, 6, 70, 2);
        x.minutes(1);
        dueAbout("6: one left, two parked", x, 4, 2, 0, 1, 0, 1, 2, 1, 2, 2, 70, 3);
        x.come(2, 9);
        x.minutes(5);
        dueAbout("6: one gave up", x, 5, 2, 0, 1, 1, 1, 7, 1, 2, 2, 70, 13);
        x.hydrant(18, true);
        x.hydrant(19, true);
        dueAbout("6: no gap", x, 5, 2, 0, 1, 1, 1, 7, 0, 0, 0, 72, 13);
    }

    private static void carOf() {
        CurbCars x = only(0, 9);
        check.range("7: no car yet", () -> x.carOf(0, 0));
        check.range("7: the car comes before what", () -> x.carOf(0, 9));
        x.come(5, 2);
        x.come(8, 99);
        for (int bad : BAD_INDEXES) {
            check.range("7: car " + bad, () -> x.carOf(bad, 0));
            check.argument("7: what " + bad, () -> x.carOf(0, bad));
        }
        check.range("7: car 2", () -> x.carOf(2, 0));
        check.argument("7: what 7", () -> x.carOf(1, 7));
        dueCar("7: parked", x, 0, 5, 2, 0, 0, 0, 0, 2);
        dueCar("7: round", x, 1, 8, 99, 1, NONE, 0, 0, NONE);
        x.minutes(1);
        dueCar("7: parked a minute", x, 0, 5, 2, 0, 0, 1, 0, 1);
        dueCar("7: round a minute", x, 1, 8, 99, 1, NONE, 0, 1, NONE);
        x.minutes(1);
        dueCar("7: left", x, 0, 5, 2, 2, NONE, 2, 0, NONE);
        dueCar("7: parks in the minute, which is no minute round", x, 1, 8, 99, 0, 0, 0, 1, 99);
        x.minutes(1);
        x.tow(1);
        dueCar("7: towed", x, 1, 8, 99, 4, NONE, 1, 1, NONE);
        x.hydrant(4, true);
        x.come(7, 1);
        x.minutes(7);
        dueCar("7: gave up", x, 2, 7, 1, 3, NONE, 0, 5, NONE);
    }

    private static void at() {
        CurbCars x = new CurbCars();
        for (int bad : BAD_INDEXES) {
            check.range("8: cell " + bad, () -> x.at(bad));
        }
        check.range("8: cell 80", () -> x.at(80));
        x.hydrant(0, true);
        x.hydrant(79, true);
        x.come(2, 1);
        x.come(3, 5);
        int[] want = {100, 0, 0, 1, 1, 1, NONE};
        for (int cell = 0; cell < want.length; cell++) {
            int c = cell;
            check.due("8: at(" + cell + ")", want[cell], () -> x.at(c));
        }
        check.due("8: the last cell", 100, () -> x.at(79));
        check.due("8: the last but one", NONE, () -> x.at(78));
        x.minutes(1);
        check.due("8: free behind a car that left", NONE, () -> x.at(1));
        check.due("8: the other stays", 1, () -> x.at(3));
    }

    private static void gap() {
        CurbCars x = new CurbCars();
        check.due("9: all, lowest", 0, () -> x.gap(0, 0));
        check.due("9: all, cells", 80, () -> x.gap(0, 1));
        x.hydrant(3, true);
        x.hydrant(4, true);
        x.hydrant(79, true);
        x.come(5, 9);
        check.due("9: gap 0, lowest", 0, () -> x.gap(0, 0));
        check.due("9: gap 0, cells", 3, () -> x.gap(0, 1));
        check.due("9: gap 1, lowest", 10, () -> x.gap(1, 0));
        check.due("9: gap 1, cells", 69, () -> x.gap(1, 1));
        check.range("9: gap 2", () -> x.gap(2, 0));
        check.range("9: the gap comes before what", () -> x.gap(2, 2));
        for (int bad : BAD_INDEXES) {
            check.range("9: gap " + bad, () -> x.gap(bad, 1));
            check.argument("9: what " + bad, () -> x.gap(1, bad));
        }
        check.argument("9: what 2", () -> x.gap(0, 2));
        CurbCars y = new CurbCars();
        for (int cell = 1; cell < 80; cell += 2) {
            y.hydrant(cell, true);
        }
        check.due("9: forty gaps", 40, () -> y.about(7));
        check.due("9: gap 39", 78, () -> y.gap(39, 0));
        check.due("9: gap 39, cells", 1, () -> y.gap(39, 1));
        check.range("9: gap 40", () -> y.gap(40, 0));
        check.due("9: longest", 1, () -> y.about(8));
        y.hydrant(79, false);
        check.due("9: up to the last cell", 2, () -> y.gap(39, 1));
        CurbCars z = only(0, -1);
        check.range("9: no gap", () -> z.gap(0, 0));
        check.due("9: no gaps", 0, () -> z.about(7));
    }

    private static void setting() {
        CurbCars x = new CurbCars();
        for (int bad : BAD_INDEXES) {
            check.argument("10: " + bad, () -> x.setting(bad));
        }
        check.argument("10: 3", () -> x.setting(3));
        x.set(0, 2);
        x.set(1, 4);
        x.set(2, 30);
        check.due("10: rule", 2, () -> x.setting(0));
        check.due("10: room", 4, () -> x.setting(1));
        check.due("10: patience", 30, () -> x.setting(2));
    }

    private static void hydrant() {
        CurbCars x = new CurbCars();
        for (int bad : BAD_INDEXES) {
            check.range("11: with " + bad, () -> x.hydrant(bad, true));
            check.range("11: without " + bad, () -> x.hydrant(bad, false));
        }
        check.range("11: 80", () -> x.hydrant(80, true));
        check.due("11: with 0", 1, () -> x.hydrant(0, true));
        check.due("11: with 79", 2, () -> x.hydrant(79, true));
        check.due("11: with 0 again", 2, () -> x.hydrant(0, true));
        check.due("11: without 5, which has none", 2, () -> x.hydrant(5, false));
        check.due("11: without 0", 1, () -> x.hydrant(0, false));
        x.come(3, 9);
        check.state("11: a car stands on 0", () -> x.hydrant(0, true));
        check.state("11: a car stands on 2", () -> x.hydrant(2, true));
        check.due("11: without is no harm to a car", 1, () -> x.hydrant(1, false));
        check.due("11: the car stands", 0, () -> x.at(1));
        check.due("11: behind the car", 2, () -> x.hydrant(3, true));
        check.due("11: all were actions, those that threw were not", 7, x::undo);
    }

    private static void come() {
        CurbCars x = new CurbCars();
        for (int bad : BAD_LENGTHS) {
            check.argument("12: length " + bad, () -> x.come(bad, 5));
        }
        for (int bad : new int[] {-1, 0, 100, Integer.MIN_VALUE, Integer.MAX_VALUE}) {
            check.argument("12: stay " + bad, () -> x.come(5, bad));
        }
        check.due("12: first", 0, () -> x.come(2, 1));
        check.due("12: second", 1, () -> x.come(8, 99));
        check.due("12: lies behind", 2, () -> x.carOf(1, 3));
        while (x.about(0) < 40) {
            x.come(8, 1);
        }
        check.state("12: 40 came", () -> x.come(2, 1));
        check.argument("12: length comes before 40", () -> x.come(1, 1));
        check.argument("12: stay comes before 40", () -> x.come(2, 0));
        check.due("12: car 39", 1, () -> x.carOf(39, 2));

        CurbCars y = only(0, 5);
        check.due("12: goes round", 0, () -> y.come(6, 3));
        dueCar("12: round", y, 0, 6, 3, 1, NONE, 0, 0, NONE);
        check.due("12: one that fits parks", 1, () -> y.come(5, 3));
        dueCar("12: parked", y, 1, 5, 3, 0, 0, 0, 0, 3);
        rules();
    }

    private static void rules() {
        // the gaps are 0 to 9, 11 to 16, 18 to 23, and 25 to 79
        String hydrants = "Sh10+h17+h24+";
        CurbCars lowest = street(hydrants);
        lowest.come(5, 9);
        check.due("12: rule 0", 0, () -> lowest.carOf(0, 3));
        lowest.come(5, 9);
        check.due("12: rule 0, five cells are too few", 11, () -> lowest.carOf(1, 3));
        CurbCars shortest = street(hydrants + "r1");
        shortest.come(5, 9);
        check.due("12: rule 1, of two the lower", 11, () -> shortest.carOf(0, 3));
        shortest.come(5, 9);
        check.due("12: rule 1, the other", 18, () -> shortest.carOf(1, 3));
        shortest.come(5, 9);
        check.due("12: rule 1, a longer one", 0, () -> shortest.carOf(2, 3));
        CurbCars empty = street("Sr1");
        empty.come(5, 9);
        check.due("12: rule 1, one gap of all cells", 0, () -> empty.carOf(0, 3));
        CurbCars chance = new CurbCars();
        chance.set(0, 2);
        chance.come(2, 9);
        check.due("12: rule 2, 908834774 modulo 79", 51, () -> chance.carOf(0, 3));
        chance.come(2, 9);
        check.due("12: rule 2, 1093944153 modulo 76", 1, () -> chance.carOf(1, 3));
        CurbCars stuck = only(0, 7);
        stuck.set(0, 2);
        stuck.come(8, 9);
        stuck.hydrant(8, false);
        stuck.minutes(1);
        check.due("12: no chance is used by a car that cannot park: 908834774 modulo 2", 0, () -> stuck.carOf(0, 3));
    }

    private static void leave() {
        CurbCars x = new CurbCars();
        check.range("13: no car", () -> x.leave(0));
        x.come(3, 5);
        x.come(4, 5);
        for (int bad : BAD_INDEXES) {
            check.range("13: car " + bad, () -> x.leave(bad));
        }
        check.range("13: car 2", () -> x.leave(2));
        x.minutes(2);
        check.due("13: its place", 3, () -> x.leave(1));
        dueCar("13: left", x, 1, 4, 5, 2, NONE, 2, 0, NONE);
        check.due("13: its cells are free", 77, () -> x.about(9));
        check.state("13: it left", () -> x.leave(1));
        check.due("13: place 0", 0, () -> x.leave(0));
        CurbCars y = only(0, 3);
        y.come(3, 5);
        y.come(3, 5);
        check.state("13: it goes round", () -> y.leave(1));
        y.leave(0);
        check.due("13: the other parks in the next minute only", 1, () -> y.carOf(1, 2));
        y.tow(y.minutes(1));
        check.state("13: it is towed", () -> y.leave(1));
    }

    private static void tow() {
        CurbCars x = only(0, 8);
        check.range("14: no car", () -> x.tow(0));
        x.come(4, 9);
        x.come(4, 50);
        x.come(4, 50);
        for (int bad : BAD_INDEXES) {
            check.range("14: car " + bad, () -> x.tow(bad));
        }
        check.range("14: car 3", () -> x.tow(3));
        check.state("14: it goes round", () -> x.tow(2));
        x.minutes(2);
        check.due("14: 9 less 2", 7, () -> x.tow(0));
        dueCar("14: towed", x, 0, 4, 9, 4, NONE, 2, 0, NONE);
        check.due("14: its cells are free", NONE, () -> x.at(0));
        check.state("14: it is towed", () -> x.tow(0));
        check.due("14: 50 less 2", 48, () -> x.tow(1));
        x.come(3, 1);
        check.due("14: all of its stay", 1, () -> x.tow(3));
    }

    private static void move() {
        CurbCars x = new CurbCars();
        check.range("15: no car", () -> x.move(0, 0));
        x.come(3, 2);
        x.come(4, 9);
        x.hydrant(20, true);
        for (int bad : BAD_INDEXES) {
            check.range("15: car " + bad, () -> x.move(bad, 0));
            check.range("15: cell " + bad, () -> x.move(0, bad));
        }
        check.range("15: car 2", () -> x.move(2, 0));
        check.range("15: cell 80", () -> x.move(1, 80));
        check.due("15: not at all", 0, () -> x.move(0, 0));
        check.due("15: over its own cells", 2, () -> x.move(1, 5));
        check.due("15: back", 1, () -> x.move(1, 4));
        check.due("15: up to the hydrant", 12, () -> x.move(1, 16));
        check.state("15: onto the hydrant", () -> x.move(1, 17));
        check.state("15: over the hydrant", () -> x.move(1, 21));
        check.due("15: down to the car", 13, () -> x.move(1, 3));
        check.state("15: onto the car", () -> x.move(1, 2));
        check.state("15: over the car", () -> x.move(0, 7));
        check.state("15: over the car and far", () -> x.move(0, 12));
        dueCar("15: its place", x, 1, 4, 9, 0, 3, 0, 0, 9);
        x.hydrant(20, false);
        check.state("15: beyond the last cell", () -> x.move(1, 77));
        check.state("15: beyond the last cell by far", () -> x.move(1, 79));
        check.due("15: to the last cells", 73, () -> x.move(1, 76));
        check.due("15: on the last cell", 1, () -> x.at(79));
        check.due("15: behind it is free", NONE, () -> x.at(6));
        x.minutes(2);
        check.state("15: it left", () -> x.move(0, 0));
        check.range("15: the cell comes before that it left", () -> x.move(0, 80));
        CurbCars y = only(0, 3);
        y.come(8, 5);
        check.state("15: it goes round", () -> y.move(0, 0));
    }

    private static void minutes() {
        CurbCars x = only(0, 8);
        for (int bad : new int[] {-1, 0, 61, Integer.MIN_VALUE, Integer.MAX_VALUE}) {
            check.argument("16: " + bad, () -> x.minutes(bad));
        }
        x.come(8, 3);
        x.come(8, 2);
        x.come(4, 1);
        x.come(4, 9);
        check.due("16: none parks", 0, () -> x.minutes(2));
        check.due("16: the first leaves, the next parks by its number", 1, () -> x.minutes(1));
        dueCar("16: car 1", x, 1, 8, 2, 0, 0, 0, 2, 2);
        dueCar("16: car 2", x, 2, 4, 1, 1, NONE, 0, 3, NONE);
        check.due("16: it leaves behind two, and two park", 2, () -> x.minutes(2));
        dueCar("16: car 2 parks in its fifth minute", x, 2, 4, 1, 0, 0, 0, 4, 1);
        check.due("16: none goes round", 0, () -> x.minutes(60));
        dueAbout("16: all left", x, 4, 0, 0, 4, 0, 0, 65, 1, 9, 9, 71, 3 + 2 + 1 + 9);

        CurbCars y = only(0, 4);
        y.come(4, 99);
        y.come(4, 99);
        y.minutes(4);
        check.due("16: still goes round", 1, () -> y.carOf(1, 2));
        y.minutes(1);
        dueCar("16: gives up", y, 1, 4, 99, 3, NONE, 0, 5, NONE);
        y.set(2, 10);
        y.come(4, 99);
        y.minutes(6);
        y.set(2, 1);
        check.due("16: a lower setting alone does nothing", 1, () -> y.carOf(2, 2));
        y.minutes(1);
        dueCar("16: gives up behind more than the setting", y, 2, 4, 99, 3, NONE, 0, 7, NONE);
        y.leave(0);
        check.due("16: who gave up does not come back", 0, () -> y.minutes(3));
    }

    private static void set() {
        CurbCars x = new CurbCars();
        for (int bad : BAD_INDEXES) {
            check.argument("17: what " + bad, () -> x.set(bad, 1));
            check.argument("17: rule " + bad, () -> x.set(0, bad));
            check.argument("17: room " + bad, () -> x.set(1, bad));
            check.argument("17: patience " + bad, () -> x.set(2, bad));
        }
        check.argument("17: what 3", () -> x.set(3, 1));
        check.argument("17: rule 3", () -> x.set(0, 3));
        check.argument("17: room 5", () -> x.set(1, 5));
        check.argument("17: patience 0", () -> x.set(2, 0));
        check.argument("17: patience 31", () -> x.set(2, 31));
        check.due("17: rule", 0, () -> x.set(0, 2));
        check.due("17: rule again", 2, () -> x.set(0, 1));
        check.due("17: rule 0", 1, () -> x.set(0, 0));
        check.due("17: room", 1, () -> x.set(1, 4));
        check.due("17: room 0", 4, () -> x.set(1, 0));
        check.due("17: patience", 5, () -> x.set(2, 30));
        check.due("17: patience 1", 30, () -> x.set(2, 1));
        check.due("17: patience as it is", 1, () -> x.set(2, 1));
        check.due("17: all were actions", 7, x::undo);
    }

    private static void undo() {
        CurbCars x = new CurbCars();
        check.state("18: none", x::undo);
        x.come(3, 9);
        x.minutes(2);
        x.hydrant(70, true);
        x.set(1, 3);
        x.move(0, 20);
        x.tow(0);
        check.due("18: the tow", 5, x::undo);
        dueCar("18: parked", x, 0, 3, 9, 0, 20, 2, 0, 7);
        check.due("18: on its cell", 0, () -> x.at(22));
        check.due("18: the move", 4, x::undo);
        check.due("18: back on its place", 0, () -> x.carOf(0, 3));
        check.due("18: gaps too", 3, () -> x.gap(0, 0));
        check.due("18: the setting", 3, x::undo);
        check.due("18: room", 1, () -> x.setting(1));
        check.due("18: the hydrant", 2, x::undo);
        check.due("18: none is there", NONE, () -> x.at(70));
        check.due("18: the minutes", 1, x::undo);
        check.due("18: no minutes", 0, () -> x.about(6));
        check.due("18: no minutes of the car", 0, () -> x.carOf(0, 4));
        check.due("18: the car", 0, x::undo);
        check.range("18: no car", () -> x.carOf(0, 0));
        check.state("18: no more", x::undo);

        for (int n = 1; n <= 20; n++) {
            x.minutes(n);
        }
        for (int left = 13; left >= 0; left--) {
            check.due("18: fourteen at the most", left, x::undo);
        }
        check.state("18: the fifteenth is forgotten", x::undo);
        check.due("18: behind six actions", 21, () -> x.about(6));
        check.argument("18: what throws is no action", () -> x.minutes(0));
        check.state("18: still none", x::undo);
        x.set(0, 2);
        x.come(2, 5);
        int first = x.carOf(0, 3);
        x.undo();
        x.come(2, 5);
        check.due("18: the chance is taken back", first, () -> x.carOf(0, 3));
        x.leave(0);
        x.undo();
        check.due("18: the leave", 0, () -> x.carOf(0, 2));
        x.hydrant(79, false);
        check.due("18: nothing different is an action too", 2, x::undo);
        CurbCars y = only(0, 3);
        y.come(8, 9);
        y.minutes(2);
        y.minutes(2);
        check.due("18: gone round for four", 4, () -> y.carOf(0, 5));
        y.undo();
        check.due("18: gone round for two", 2, () -> y.carOf(0, 5));
        y.undo();
        y.undo();
        y.hydrant(4, false);
        y.come(4, 9);
        dueCar("18: another car has nothing of the one taken back", y, 0, 4, 9, 0, 0, 0, 0, 9);
        y.minutes(1);
        y.undo();
        y.undo();
        y.come(8, 9);
        dueCar("18: nor has a third one", y, 0, 8, 9, 1, NONE, 0, 0, NONE);
    }

    private static void why() {
        CurbCars x = only(4, 9);
        for (int bad : BAD_LENGTHS) {
            check.argument("19: " + bad, () -> x.why(bad));
        }
        int[] want = {0, 0, 0, 0, 2, 1, 1};
        for (int length = 2; length <= 8; length++) {
            int l = length;
            check.due("19: room 1, length " + length, want[length - 2], () -> x.why(l));
        }
        x.set(1, 0);
        check.due("19: room 0", 0, () -> x.why(6));
        x.set(1, 4);
        check.due("19: room 4", 0, () -> x.why(2));
        check.due("19: room 4, too long", 2, () -> x.why(3));
        CurbCars y = only(0, -1);
        check.due("19: no gap", 1, () -> y.why(2));
    }

    private static void place() {
        CurbCars x = street("Sh10+h17+h24+");
        for (int bad : BAD_LENGTHS) {
            check.argument("20: " + bad, () -> x.place(bad));
        }
        check.due("20: rule 0", 0, () -> x.place(5));
        x.set(0, 1);
        check.due("20: rule 1", 11, () -> x.place(5));
        check.due("20: rule 1, long", 0, () -> x.place(6));
        x.set(1, 4);
        check.due("20: rule 1 and room", 25, () -> x.place(7));
        x.set(0, 2);
        x.set(1, 1);
        // 3 + 48 places of length 8: the gaps 0 to 9 and 25 to 79
        check.due("20: rule 2, 908834774 modulo 51", 25 + 908834774 % 51 - 3, () -> x.place(8));
        check.due("20: rule 2, the same again", 25 + 908834774 % 51 - 3, () -> x.place(8));
        x.come(8, 5);
        check.due("20: is where it parks", 25 + 908834774 % 51 - 3, () -> x.carOf(0, 3));
        CurbCars y = only(70, 75);
        check.due("20: none", NONE, () -> y.place(6));
        check.due("20: one", 70, () -> y.place(5));
        y.set(0, 1);
        check.due("20: none by rule 1", NONE, () -> y.place(6));
        y.set(0, 2);
        check.due("20: none by rule 2", NONE, () -> y.place(6));
        check.due("20: by rule 2, 908834774 modulo 2", 70, () -> y.place(5));
        y.come(5, 5);
        check.due("20: none is left", NONE, () -> y.place(2));
    }

    private static void fits() {
        CurbCars x = new CurbCars();
        for (int bad : BAD_LENGTHS) {
            check.argument("21: length " + bad, () -> x.fits(bad, 0));
            check.argument("21: length " + bad, () -> x.fits(bad, 1));
        }
        for (int bad : new int[] {-1, 2, Integer.MIN_VALUE, Integer.MAX_VALUE}) {
            check.argument("21: way " + bad, () -> x.fits(5, bad));
        }
        int[] byLength = {39, 26, 19, 15, 13, 11, 9};
        for (int way = 0; way <= 1; way++) {
            int w = way;
            for (int length = 2; length <= 8; length++) {
                int l = length;
                check.due("21: " + length + ", " + way, byLength[length - 2], () -> x.fits(l, w));
            }
        }
        x.set(1, 0);
        x.set(0, 2);
        check.due("21: forty", 40, () -> x.fits(2, 0));
        check.due("21: forty by gaps", 40, () -> x.fits(2, 1));
        x.hydrant(1, true);
        x.hydrant(5, true);
        x.set(1, 4);
        // the gaps have 1, 3 and 74 cells
        check.due("21: a gap with fewer cells than the room", 35, () -> x.fits(2, 0));
        check.due("21: the same by gaps", 35, () -> x.fits(2, 1));
        CurbCars z = only(10, 16);
        for (int way = 0; way <= 1; way++) {
            int w = way;
            check.due("21: as many cells as are needed, " + way, 2, () -> z.fits(3, w));
            check.due("21: one, " + way, 1, () -> z.fits(6, w));
            check.due("21: a cell too few, " + way, 0, () -> z.fits(7, w));
        }
        CurbCars y = new CurbCars();
        for (int c = 0; c < 40; c++) {
            y.come(2, 1);
        }
        y.minutes(1);
        check.due("21: the cars that came before do not count", y.fits(3, 1), () -> y.fits(3, 0));
        y.minutes(2);
        check.due("21: told with 40 cars come", 39, () -> y.fits(2, 0));
        check.due("21: told with 40 cars come, by gaps", 39, () -> y.fits(2, 1));
        check.due("21: changes nothing", 80, () -> y.about(9));
    }

    private static void gapIn() {
        CurbCars x = only(0, 8);
        for (int bad : BAD_LENGTHS) {
            check.argument("22: " + bad, () -> x.gapIn(bad));
        }
        check.due("22: now", 0, () -> x.gapIn(8));
        x.come(8, 7);
        check.due("22: when it leaves", 7, () -> x.gapIn(8));
        x.minutes(1);
        check.due("22: a minute later", 6, () -> x.gapIn(2));
        x.come(8, 20);
        check.due("22: who goes round gives up before", 6, () -> x.gapIn(2));
        x.minutes(3);
        x.come(6, 20);
        check.due("22: who goes round parks first", 23, () -> x.gapIn(8));
        check.due("22: but leaves room", 3, () -> x.gapIn(2));
        check.due("22: no minute goes by", 4, () -> x.about(6));
        CurbCars y = only(10, 13);
        check.due("22: never", NONE, () -> y.gapIn(4));
        check.due("22: a short one", 0, () -> y.gapIn(3));
        CurbCars z = only(0, 8);
        z.set(2, 30);
        z.come(8, 1);
        z.come(8, 99);
        check.due("22: by the hundredth minute", 100, () -> z.gapIn(2));
        CurbCars v = only(0, 8);
        v.set(2, 30);
        v.come(8, 2);
        v.come(8, 99);
        check.due("22: behind the hundredth minute", NONE, () -> v.gapIn(2));
        v.minutes(1);
        check.due("22: a minute later it is the hundredth", 100, () -> v.gapIn(2));
    }

    private static void mover() {
        CurbCars x = only(0, 19);
        for (int bad : BAD_LENGTHS) {
            check.argument("23: length " + bad, () -> x.mover(bad, 0));
        }
        for (int bad : new int[] {-1, 2, Integer.MIN_VALUE, Integer.MAX_VALUE}) {
            check.argument("23: what " + bad, () -> x.mover(5, bad));
        }
        check.due("23: a gap suffices now", NONE, () -> x.mover(8, 0));
        check.due("23: no place then", NONE, () -> x.mover(8, 1));
        x.come(8, 9);
        x.come(4, 9);
        // 0 to 7, 8 to 11, free 12 to 19: for 8 nine are needed
        check.due("23: none can be moved so", NONE, () -> x.mover(8, 0));
        check.due("23: no place either", NONE, () -> x.mover(8, 1));
        x.move(1, 13);
        // free are 8 to 12 and 17 to 19: 8 in all, for 7 eight are needed
        check.due("23: the second", 1, () -> x.mover(7, 0));
        check.due("23: up by 3 is nearer than down by 5", 16, () -> x.mover(7, 1));
        check.due("23: a gap of 6", 15, () -> x.mover(6, 1));
        x.move(1, 11);
        // free are 8 to 10 and 15 to 19
        check.due("23: down by 3 is nearer than up by 5", 8, () -> x.mover(7, 1));
        x.move(1, 12);
        // free are 8 to 11 and 16 to 19
        check.due("23: of two as near the lower", 8, () -> x.mover(7, 1));
        check.due("23: of two as near the lower, for 4", 11, () -> x.mover(4, 1));
        check.due("23: a gap suffices for 3", NONE, () -> x.mover(3, 1));
        x.set(1, 0);
        check.due("23: without room", 10, () -> x.mover(6, 1));
        x.leave(1);
        x.move(0, 6);
        // free are 0 to 5 and 14 to 19
        check.due("23: the lowest car", 0, () -> x.mover(8, 0));
        check.due("23: by two", 4, () -> x.mover(8, 1));
        check.due("23: stays where it is", 6, () -> x.carOf(0, 3));
        CurbCars y = only(0, 11);
        y.set(1, 0);
        y.come(2, 9);
        y.come(2, 9);
        y.come(2, 9);
        y.move(2, 10);
        y.move(1, 6);
        y.move(0, 2);
        // free are 0 1, 4 5, 8 9
        check.due("23: the lowest number of three", 0, () -> y.mover(4, 0));
        check.due("23: to its lower end", 0, () -> y.mover(4, 1));
        y.leave(0);
        y.come(3, 9);
        y.come(2, 9);
        // 3 stands on 0 to 2, 4 on 3 and 4, 1 on 6 and 7, 2 on 10 and 11
        check.due("23: number 1 is not the lowest cell", 1, () -> y.mover(3, 0));
        check.due("23: down by one", 5, () -> y.mover(3, 1));
        CurbCars z = only(0, 3);
        z.come(2, 9);
        z.come(4, 9);
        check.due("23: a car that goes round is not moved", NONE, () -> z.mover(4, 0));
    }

    private static void jam() {
        CurbCars x = new CurbCars();
        for (int bad : BAD_LENGTHS) {
            check.argument("24: " + bad, () -> x.jam(bad, 1L));
        }
        long[] seeds = {1L, 0L, -1L, 12345L, Long.MIN_VALUE};
        int[] twos = {28, 27, 31, 29, 28};
        int[] fives = {12, 12, 12, 10, 11};
        for (int i = 0; i < seeds.length; i++) {
            long seed = seeds[i];
            check.due("24: 2, " + seed, twos[i], () -> x.jam(2, seed));
            check.due("24: 5, " + seed, fives[i], () -> x.jam(5, seed));
            check.due("24: 8, " + seed, 7, () -> x.jam(8, seed));
        }
        check.due("24: changes nothing", 80, () -> x.about(9));
        check.due("24: the rule is as before", 0, () -> x.setting(0));
        x.set(0, 2);
        x.jam(3, 77L);
        check.due("24: the long of chance is as before", 51, () -> x.place(2));
        for (int c = 0; c < 39; c++) {
            x.come(8, 1);
        }
        x.minutes(10);
        check.due("24: cars that came do not count", 28, () -> x.jam(2, 1L));
        CurbCars y = only(0, 2);
        check.due("24: one", 1, () -> y.jam(2, 5L));
        check.due("24: none", 0, () -> y.jam(3, 5L));
        y.set(1, 0);
        check.due("24: without room", 1, () -> y.jam(3, 5L));
    }

    private static void runScript() {
        CurbCars x = new CurbCars();
        for (int bad : new int[] {-1, 0, 4, Integer.MIN_VALUE, Integer.MAX_VALUE}) {
            check.argument("25: n " + bad, () -> x.runScript(bad, 0L));
        }
        check.argument("25: negative", () -> x.runScript(1, -1L));
        check.argument("25: lowest", () -> x.runScript(3, Long.MIN_VALUE));
        check.argument("25: seven digits", () -> x.runScript(1, 1000000L));
        check.argument("25: thirteen digits", () -> x.runScript(2, 1000000000000L));
        check.argument("25: nineteen digits", () -> x.runScript(3, 1000000000000000000L));
        check.argument("25: highest", () -> x.runScript(3, Long.MAX_VALUE));
        check.due("25: eighteen digits", 2, () -> x.runScript(3, 920039920039999999L));
        check.due("25: zeros before", 0, () -> x.runScript(2, 400005L));
        check.due("25: no command", 0, () -> x.runScript(1, 0L));

        x.come(4, 5);
        x.hydrant(50, true);
        String[] good = {"130501", "189901", "120101", "200000", "300760", "300200", "300000", "400001", "400060",
            "500020", "500000", "510040", "520300", "520010", "600050", "679001", "679000", "650001", "600000",
            "720000", "780000", "800000", "920000", "980008"};
        for (String group : good) {
            int want = "300760".equals(group) ? 0 : NONE;
            check.due("25: " + group, "600050".equals(group) ? 0 : want, () -> x.runScript(1, Long.parseLong(group)));
        }
        String[] bad = {"110501", "190501", "100501", "130001", "130511", "130500", "130502", "130509", "201000", "239000",
            "299000", "200001", "200010", "200100", "301000", "300001", "300770", "300800", "300990", "300480",
            "400000", "400061", "400099", "400101", "401001", "410001", "500030", "500021", "501020", "510050", "520000",
            "520310", "530010", "590010", "500990", "600001", "600002", "679002", "679010", "679101", "680000", "699001",
            "720001", "720002", "720010", "720100", "721000", "710000", "790000", "700000", "800001", "800010", "800100",
            "801000", "899000", "920099", "910000", "990000", "900000", "920100", "921000", "000000", "099999"};
        for (String group : bad) {
            check.due("25: " + group, 0, () -> x.runScript(1, Long.parseLong(group)));
        }
        check.due("25: fits(2, 1) is 22 + 14", NONE, () -> x.runScript(1, 920036L));
        check.due("25: fits(2, 1) is not 37", 0, () -> x.runScript(1, 920037L));
        check.due("25: left is seen", NONE, () -> x.runScript(2, 200000800002L));
        check.due("25: left is seen, not parked", 1, () -> x.runScript(2, 200000800000L));
        check.due("25: each sees the ones before", NONE, () -> x.runScript(3, 130501400005801002L));
        check.due("25: the third fails", 2, () -> x.runScript(3, 130501400004801002L));
        check.due("25: the second fails", 1, () -> x.runScript(3, 200000200000200000L));
        check.due("25: the first fails", 0, () -> x.runScript(3, 1L));
        check.due("25: the state is as before", 0, () -> x.carOf(0, 2));
        check.due("25: no car came", 1, () -> x.about(0));

        CurbCars y = only(0, 4);
        check.due("25: does not park as told", NONE, () -> y.runScript(1, 150500L));
        check.due("25: does not park", 0, () -> y.runScript(1, 150501L));
        check.due("25: does not park, b is 2", 0, () -> y.runScript(1, 150502L));
        check.due("25: reason 2", NONE, () -> y.runScript(1, 750002L));
        check.due("25: reason 1", NONE, () -> y.runScript(1, 760001L));
        check.due("25: goes round and gives up", NONE, () -> y.runScript(3, 150500400005800003L));
        check.due("25: goes round", NONE, () -> y.runScript(2, 150500800001L));
        CurbCars z = new CurbCars();
        for (int c = 0; c < 40; c++) {
            z.come(2, 1);
        }
        z.minutes(1);
        check.due("25: 40 came, told that it parks", 0, () -> z.runScript(1, 120101L));
        check.due("25: 40 came, told that it does not", 0, () -> z.runScript(1, 120100L));
        check.due("25: car 39 is there", NONE, () -> z.runScript(1, 839000L));
        check.due("25: car 40 is not", 0, () -> z.runScript(1, 840000L));
    }

    private static void simulate() {
        CurbCars x = new CurbCars();
        for (int bad : new int[] {-1, 0, 61, Integer.MIN_VALUE, Integer.MAX_VALUE}) {
            check.argument("26: " + bad, () -> x.simulate(1L, bad));
        }
        // from 1 the first r is 908834774, r % 8 is 6: minutes; the second is 1093944153, r % 8 is 1: q is 136743019, come(2, 18)
        check.due("26: minutes", 80, () -> x.simulate(1L, 1));
        check.due("26: a car comes", 10078, () -> x.simulate(1L, 2));
        check.due("26: changes nothing", 0, () -> x.about(0));
        CurbCars y = only(0, 4);
        y.come(8, 5);
        y.minutes(5);
        check.due("26: who gave up before does not count", 5, () -> y.simulate(1L, 1));
        y.come(8, 5);
        y.set(2, 1);
        check.due("26: who gives up in it counts", 105, () -> y.simulate(1L, 1));
        turns();
    }

    private static final BigInteger FACTOR = BigInteger.valueOf(6364136223846793005L);
    private static final BigInteger ADDEND = BigInteger.valueOf(1442695040888963407L);
    private static final BigInteger TWO64 = BigInteger.ONE.shiftLeft(64);

    /** A seed from which the first turn has this r, and this remainder of chance below it. */
    private static long seedFor(long r, long below) {
        BigInteger x = BigInteger.valueOf(r).shiftLeft(33).add(BigInteger.valueOf(below));
        return x.subtract(ADDEND).multiply(FACTOR.modInverse(TWO64)).longValue();
    }

    /** A seed from which the first turn has this r, and the second one this kind and this q modulo a number. */
    private static long seedForTwo(long r, int kind, int q, int modulo) {
        for (long below = 0; ; below++) {
            BigInteger x = BigInteger.valueOf(r).shiftLeft(33).add(BigInteger.valueOf(below));
            long second = x.multiply(FACTOR).add(ADDEND).mod(TWO64).shiftRight(33).longValueExact();
            if (second % 8 == kind && second / 8 % modulo == q) {
                return seedFor(r, below);
            }
        }
    }

    private static void dueTurn(String name, int want, CurbCars x, int q, int kind) {
        check.due("26: " + name, want, () -> x.simulate(seedFor(8L * q + kind, 5), 1));
    }

    private static void turns() {
        CurbCars x = new CurbCars();
        for (int kind = 0; kind <= 2; kind++) {
            dueTurn("come(2, 1)", 10078, x, 0, kind);
            dueTurn("come(8, 1)", 10072, x, 6, kind);
            dueTurn("come(2, 2)", 10078, x, 14, kind);
            dueTurn("come(5, 4)", 10075, x, 24, kind);
        }
        dueTurn("hydrant(3, false) where none is", 80, x, 3, 4);
        dueTurn("hydrant(49, true)", 79, x, 129, 4);
        dueTurn("hydrant(16, true)", 79, x, 256, 4);
        dueTurn("hydrant(64, false)", 80, x, 384, 4);
        dueTurn("leave of no car", 80, x, 7, 3);
        x.come(2, 8);
        x.come(3, 9);
        x.come(4, 6);
        x.hydrant(79, true);
        x.hydrant(69, true);
        dueTurn("leave(1)", 20072, x, 1, 3);
        dueTurn("leave(2)", 20073, x, 2, 3);
        dueTurn("leave(2), by 42", 20073, x, 42, 3);
        dueTurn("leave(3) of no car", 30069, x, 43, 3);
        dueTurn("hydrant(79, false)", 30070, x, 79, 4);
        dueTurn("hydrant(69, false) by 389", 30070, x, 389, 4);
        dueTurn("hydrant(0, true) on a car", 30069, x, 160, 4);
        dueTurn("hydrant(0, false) on a car", 30069, x, 0, 4);
        for (int kind = 6; kind <= 7; kind++) {
            dueTurn("minutes(5)", 30069, x, 4, kind);
            dueTurn("minutes(6)", 20073, x, 5, kind);
            dueTurn("minutes(9)", 78, x, 8, kind);
            dueTurn("minutes(1)", 30069, x, 9, kind);
        }
        // a room is set, and then a car comes: the gaps are 0 to 4 and 6 to 8
        CurbCars y = street("S");
        fillOutside(y, 0, 8);
        y.hydrant(5, true);
        for (int room = 0; room <= 4; room++) {
            int q = 8 * room + 4;
            int parks = room <= 3 ? 10006 : 8;
            check.due("26: set(1, " + room + "), come(2, ..)", parks, () -> y.simulate(seedForTwo(8L * q + 5, 0, 0, 7), 2));
            int threeParks = room <= 2 ? 10005 : 8;
            check.due("26: set(1, " + room + "), come(3, ..)", threeParks, () -> y.simulate(seedForTwo(8L * q + 5, 0, 1, 7), 2));
        }
        rulesOfTurns();
    }

    private static void rulesOfTurns() {
        CurbCars z = only(0, 9);
        z.set(1, 0);
        z.hydrant(3, true);
        z.hydrant(6, true);
        // the gaps are 0 to 2, 4 5 and 7 to 9: by rule 0 a car of 2 breaks the first, by rule 1 it takes the second
        check.due("26: set(0, 0), come(2, ..), come(3, ..)", 20003, () -> z.simulate(threeTurns(0), 3));
        z.come(3, 50);
        // the gaps are 4 5 and 7 to 9
        check.due("26: set(0, 1), come(2, ..), come(3, ..)", 30000, () -> z.simulate(threeTurns(1), 3));
        z.leave(0);
        z.hydrant(9, true);
        // the gaps are 0 to 2, 4 5 and 7 8: a car of 3 fits behind one of 2 by rule 1 alone
        check.due("26: by rule 0 the second goes round", 10005, () -> z.simulate(threeTurns(0), 3));
        check.due("26: by rule 1 both park", 20002, () -> z.simulate(threeTurns(1), 3));
    }

    /** A seed from which the turns are set(0, rule), come(2, ..) and come(3, ..). */
    private static long threeTurns(int rule) {
        for (long below = 0; ; below++) {
            // q / 4 % 2 is 0, and q % 3 is the rule
            long q = rule == 0 ? 72 : 73;
            BigInteger x = BigInteger.valueOf(8 * q + 5).shiftLeft(33).add(BigInteger.valueOf(below));
            BigInteger second = x.multiply(FACTOR).add(ADDEND).mod(TWO64);
            BigInteger third = second.multiply(FACTOR).add(ADDEND).mod(TWO64);
            long r2 = second.shiftRight(33).longValueExact();
            long r3 = third.shiftRight(33).longValueExact();
            if (r2 % 8 <= 2 && r2 / 8 % 7 == 0 && r3 % 8 <= 2 && r3 / 8 % 7 == 1) {
                return seedFor(8 * q + 5, below);
            }
        }
    }

    private static void saveAndRestore() {
        CurbCars x = new CurbCars();
        for (int bad : BAD_INDEXES) {
            check.range("27: " + bad, () -> x.save(bad));
            check.range("28: " + bad, () -> x.restore(bad));
        }
        check.range("27: 2", () -> x.save(2));
        check.range("28: 2", () -> x.restore(2));
        x.set(0, 2);
        x.set(1, 0);
        x.set(2, 9);
        x.come(2, 30);
        x.hydrant(79, true);
        x.minutes(7);
        check.due("27: the minutes", 7, () -> x.save(1));
        check.state("28: slot 0 is empty", () -> x.restore(0));
        int next = x.place(3);
        check.due("27: is no action", 5, x::undo);
        x.minutes(3);
        check.due("27: slot 0", 3, () -> x.save(0));
        x.come(3, 5);
        x.tow(0);
        x.set(0, 0);
        x.set(1, 3);
        x.set(2, 1);
        x.hydrant(79, false);
        check.due("28: the minutes then", 7, () -> x.restore(1));
        check.state("28: no state is remembered", x::undo);
        dueAbout("28", x, 1, 1, 0, 0, 0, 0, 7);
        dueCar("28: car 0", x, 0, 2, 30, 0, 908834774 % 79, 7, 0, 23);
        check.due("28: the chance", next, () -> x.place(3));
        check.due("28: the rule", 2, () -> x.setting(0));
        check.due("28: the room", 0, () -> x.setting(1));
        check.due("28: the patience", 9, () -> x.setting(2));
        check.due("28: the hydrant", 100, () -> x.at(79));
        x.minutes(20);
        check.due("28: the slot keeps it", 7, () -> x.restore(1));
        check.due("28: the other slot", 3, () -> x.restore(0));
        check.due("28: the slot is a copy", 7, () -> {
            x.restore(1);
            x.leave(0);
            x.minutes(9);
            x.restore(1);
            return x.carOf(0, 4);
        });
        x.minutes(2);
        check.due("27: again", 9, () -> x.save(1));
        x.undo();
        check.due("28: undo leaves the slots", 9, () -> x.restore(1));
        check.due("28: the text is not in the state", 1, () -> x.append('S'));
        x.restore(0);
        check.due("28: the text is as it was", 1, x::clearText);
    }

    /** "These and all following methods up to the save slots change nothing." */
    private static void nothingChanges() {
        CurbCars x = street("Sh20+h41+r2c510c407c810c690p03c399m0000");
        x.come(8, 40);
        int[] before = look(x);
        for (int length = 2; length <= 8; length++) {
            x.why(length);
            x.place(length);
            x.fits(length, 0);
            x.fits(length, 1);
            x.gapIn(length);
            x.mover(length, 0);
            x.mover(length, 1);
            x.jam(length, 99L);
            x.runScript(3, 130501200000400060L);
            x.simulate(length, 60);
            x.simulate(-length, 60);
        }
        int[] behind = look(x);
        for (int i = 0; i < before.length; i++) {
            int n = i;
            check.due("19 to 26: nothing is changed, number " + i, before[i], () -> behind[n]);
        }
        check.due("19 to 26: no action", 0, x::undo);
    }

    private static int[] look(CurbCars x) {
        int[] seen = new int[12 + 80 + 6 * 7 + 3 + 7];
        int n = 0;
        for (int what = 0; what < 12; what++) {
            seen[n++] = x.about(what);
        }
        for (int cell = 0; cell < 80; cell++) {
            seen[n++] = x.at(cell);
        }
        for (int c = 0; c < 6; c++) {
            for (int what = 0; what < 7; what++) {
                seen[n++] = x.carOf(c, what);
            }
        }
        for (int what = 0; what < 3; what++) {
            seen[n++] = x.setting(what);
        }
        for (int length = 2; length <= 8; length++) {
            seen[n++] = x.place(length);
        }
        return seen;
    }
}
