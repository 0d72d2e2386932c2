/** Actions, undo and refused calls: what the document says of them before the promises, and the promises 11 to 18. */
final class ActionSentences extends Sentences {

    ActionSentences(Check check) {
        super(check);
        actions();
        exceptions();
        hydrant();
        come();
        leave();
        tow();
        move();
        minutes();
        set();
        undo();
    }

    /** Car 0 is parked on 0 to 2, car 1 gave up, car 2 left, car 3 is towed, car 4 goes round; the cells 3 to 8 are free. */
    private static CurbCars allStates() {
        CurbCars x = only(0, 8);
        x.come(3, 99);
        x.come(8, 99);
        x.minutes(5);
        x.come(2, 9);
        x.leave(2);
        x.come(2, 9);
        x.tow(3);
        x.come(7, 9);
        x.set(2, 30);
        return x;
    }

    private void actions() {
        section("ACTIONS AND UNDO");
        test("The methods in the section \"actions\" change the state, which consists of everything but the text and the save "
            + "slots.", () -> {
            CurbCars x = written("Sr2");
            x.save(0);
            x.come(5, 9);
            x.save(1);
            x.append('x');
            x.minutes(1);
            x.undo();
            x.undo();
            is("undo() leaves the text", 5, x.append('x'));
            is("undo() leaves save slot 1", 0, x.restore(1));
            is("with the car", 1, x.about(0));
            is("restore() leaves the text", 6, x.append('x'));
            is("and the other save slot", 0, x.restore(0));
            is("without the car", 0, x.about(0));
        });
        test("Each call of one of them that does not throw an exception is an action, also if nothing becomes different (undo "
            + "is none).", () -> {
            CurbCars x = new CurbCars();
            x.come(8, 99);
            x.hydrant(79, false);
            x.hydrant(0, false);
            x.move(0, 0);
            x.set(0, 0);
            x.set(1, 1);
            x.set(2, 5);
            for (int left = 6; left >= 0; left--) {
                is("undo()", left, x.undo());
            }
            state("undo() is no action that could be undone", x::undo);
            is("nothing came back", 0, x.about(0));
        });
        test("Before each action, the state is remembered.", this::eachActionTakenBack);
        test("At most 14 states are remembered; when one more is remembered, the oldest one is forgotten.", () -> {
            for (int actions = 1; actions <= 45; actions++) {
                CurbCars x = new CurbCars();
                for (int n = 0; n < actions; n++) {
                    x.minutes(1);
                }
                int kept = Math.min(actions, 14);
                for (int left = kept - 1; left >= 0; left--) {
                    is(actions + " actions: undo()", left, x.undo());
                    is(actions + " actions: the minutes then", actions - kept + left, x.about(6));
                }
                state(actions + " actions: undo() of no more", x::undo);
                is(actions + " actions: the minutes at the end", actions - kept, x.about(6));
            }
            CurbCars y = new CurbCars();
            for (int n = 0; n < 20; n++) {
                y.minutes(1);
            }
            for (int n = 0; n < 5; n++) {
                y.undo();
            }
            for (int n = 0; n < 3; n++) {
                y.minutes(10);
            }
            is("14, less 5, and 3, less 1", 11, y.undo());
            is("the minutes", 35, y.about(6));
            for (int n = 0; n < 10; n++) {
                y.minutes(1);
            }
            is("14 at the most, less 1", 13, y.undo());
            is("the minutes again", 44, y.about(6));
        });
        test("load and restore are not actions.", () -> {
            CurbCars x = written("S");
            x.minutes(1);
            x.load();
            state("load() is not to be undone", x::undo);
            x.save(0);
            x.minutes(1);
            x.restore(0);
            state("restore() is not to be undone", x::undo);
            x.minutes(1);
            state("load() that throws is none", () -> {
                x.append('x');
                return x.load();
            });
            state("restore() that throws is none", () -> x.restore(1));
            is("only the minutes are", 0, x.undo());
        });
    }

    private interface Action {
        void on(CurbCars x);
    }

    /** Each action on a street with all that it changes; then undo() has to answer with the very same street. */
    private void eachActionTakenBack() {
        String[] names = {"hydrant(3, true)", "hydrant(9, false)", "come(2, 9)", "come(8, 9)", "leave(0)", "tow(0)", "move(0, 1)",
            "minutes(1)", "minutes(60)", "set(0, 0)", "set(1, 0)", "set(2, 1)"};
        Action[] actions = {x -> x.hydrant(3, true), x -> x.hydrant(9, false), x -> x.come(2, 9), x -> x.come(8, 9),
            x -> x.leave(0), x -> x.tow(0), x -> x.move(0, 1), x -> x.minutes(1), x -> x.minutes(60), x -> x.set(0, 0),
            x -> x.set(1, 0), x -> x.set(2, 1)};
        for (int i = 0; i < actions.length; i++) {
            CurbCars x = allStates();
            x.set(0, 2);
            x.come(2, 3);
            int[] before = look(x);
            actions[i].on(x);
            x.undo();
            sameLook(names[i] + " taken back", before, look(x));
        }
    }

    private void exceptions() {
        section("EXCEPTIONS");
        test("IndexOutOfBoundsException means that a cell, a car or a gap does not exist, or that a save slot is not 0 or 1.", () -> {
            CurbCars x = street("Sc299");
            rangeOutside("a cell: at", 0, 79, x::at);
            rangeOutside("a cell: hydrant", 0, 79, cell -> x.hydrant(cell, true));
            rangeOutside("a cell: move", 0, 79, cell -> x.move(0, cell));
            rangeOutside("a car: carOf", 0, 0, c -> x.carOf(c, 0));
            rangeOutside("a car: leave", 0, 0, x::leave);
            rangeOutside("a car: tow", 0, 0, x::tow);
            rangeOutside("a car: move", 0, 0, c -> x.move(c, 0));
            rangeOutside("a gap: gap", 0, 0, k -> x.gap(k, 0));
            rangeOutside("a save slot: save", 0, 1, x::save);
            rangeOutside("a save slot: restore", 0, 1, x::restore);
        });
        test("IllegalArgumentException means that another argument is out of its range.", () -> {
            CurbCars x = street("Sc299");
            argumentOutside("append", 0, 255, x::append);
            argumentOutside("about", 0, 11, x::about);
            argumentOutside("carOf(0, ..)", 0, 6, what -> x.carOf(0, what));
            argumentOutside("gap(0, ..)", 0, 1, what -> x.gap(0, what));
            argumentOutside("setting", 0, 2, x::setting);
            argumentOutside("come: length", 2, 8, length -> x.come(length, 1));
            argumentOutside("come: stay", 1, 99, stay -> x.come(2, stay));
            argumentOutside("minutes", 1, 60, x::minutes);
            argumentOutside("set: what", 0, 2, what -> x.set(what, 1));
            argumentOutside("why", 2, 8, x::why);
            argumentOutside("place", 2, 8, x::place);
            argumentOutside("fits: length", 2, 8, length -> x.fits(length, 0));
            argumentOutside("fits: way", 0, 1, way -> x.fits(2, way));
            argumentOutside("gapIn", 2, 8, x::gapIn);
            argumentOutside("mover: length", 2, 8, length -> x.mover(length, 0));
            argumentOutside("mover: what", 0, 1, what -> x.mover(2, what));
            argumentOutside("jam", 2, 8, length -> x.jam(length, 1L));
            argumentOutside("runScript", 1, 3, n -> x.runScript(n, 1L));
            argumentOutside("simulate", 1, 60, m -> x.simulate(1L, m));
        });
        test("IllegalStateException means what the method says.", () -> {
            CurbCars x = allStates();
            state("hydrant() on a car", () -> x.hydrant(0, true));
            state("leave() of a car that is not parked", () -> x.leave(1));
            state("tow() of a car that is not parked", () -> x.tow(2));
            state("move() of a car that is not parked", () -> x.move(3, 0));
            state("move() onto a hydrant", () -> x.move(0, 7));
            state("load() of no text", x::load);
            state("restore() of nothing", () -> x.restore(1));
            state("undo() of nothing", street("S")::undo);
            CurbCars fullText = written("S".repeat(120));
            state("append() to a full text", () -> fullText.append('S'));
            CurbCars forty = withFortyGone();
            state("come() when 40 came", () -> forty.come(2, 1));
        });
        test("If several exceptions apply to a call, the one that its description names first is thrown.", () -> {
            CurbCars x = written("S".repeat(120));
            argument("append(256) to a full text", () -> x.append(256));
            argument("append(-1) to a full text", () -> x.append(-1));
            range("carOf(0, 7) without cars", () -> x.carOf(0, 7));
            range("carOf(-1, -1)", () -> x.carOf(-1, -1));
            range("gap(1, 2) of one gap", () -> x.gap(1, 2));
            range("gap(-1, -1)", () -> x.gap(-1, -1));
            CurbCars y = withFortyGone();
            argument("come(1, 1) when 40 came", () -> y.come(1, 1));
            argument("come(9, 1) when 40 came", () -> y.come(9, 1));
            argument("come(2, 0) when 40 came", () -> y.come(2, 0));
            argument("come(2, 100) when 40 came", () -> y.come(2, 100));
            range("move(40, 0): there is no such car", () -> y.move(40, 0));
            range("move(0, 80) of a car that left", () -> y.move(0, 80));
            range("move(0, -1) of a car that left", () -> y.move(0, -1));
            CurbCars z = street("Sc299");
            range("move(0, 80): the cell does not exist, and the car would stand beyond the last cell", () -> z.move(0, 80));
            range("restore(2), in which nothing has been saved", () -> z.restore(2));
            range("restore(-1), in which nothing has been saved", () -> z.restore(-1));
        });
        test("A call that throws an exception changes nothing.", this::refusedCallsChangeNothing);
        test("The constants: `NONE = -1`: There is no such result.", () -> is("NONE", -1, CurbCars.NONE));
        test("what would be; these and all following methods up to the save slots change nothing.", this::wouldBeChangesNothing);
    }

    private void refusedCallsChangeNothing() {
        CurbCars x = allStates();
        CurbCars twin = allStates();
        for (CurbCars each : new CurbCars[] {x, twin}) {
            each.save(0);
            each.set(0, 2);
            each.come(2, 9);
            write(each, "Sh80");
        }
        range("at", () -> x.at(80));
        range("gap", () -> x.gap(9, 0));
        argument("append", () -> x.append(256));
        state("load", x::load);
        range("hydrant(80, true)", () -> x.hydrant(80, true));
        range("hydrant(-1, false)", () -> x.hydrant(-1, false));
        state("hydrant(0, true)", () -> x.hydrant(0, true));
        argument("come(1, 9)", () -> x.come(1, 9));
        argument("come(2, 100)", () -> x.come(2, 100));
        range("leave(9)", () -> x.leave(9));
        state("leave(1)", () -> x.leave(1));
        range("tow(9)", () -> x.tow(9));
        state("tow(2)", () -> x.tow(2));
        range("move(9, 0)", () -> x.move(9, 0));
        range("move(0, 80)", () -> x.move(0, 80));
        state("move(0, 79)", () -> x.move(0, 79));
        state("move(0, 6)", () -> x.move(0, 6));
        state("move(3, 0)", () -> x.move(3, 0));
        argument("minutes(61)", () -> x.minutes(61));
        argument("minutes(0)", () -> x.minutes(0));
        argument("set(0, 3)", () -> x.set(0, 3));
        argument("set(3, 0)", () -> x.set(3, 0));
        argument("gapIn(9)", () -> x.gapIn(9));
        argument("jam(9, 5)", () -> x.jam(9, 5L));
        argument("runScript(4, 400001)", () -> x.runScript(4, 400001L));
        argument("simulate(1, 61)", () -> x.simulate(1L, 61));
        range("save(2)", () -> x.save(2));
        range("restore(2)", () -> x.restore(2));
        state("restore(1)", () -> x.restore(1));
        sameLook("the street", look(twin), look(x));
        is("the error position", twin.errorPosition(), x.errorPosition());
        is("the text", twin.clearText(), x.clearText());
        for (int n = 0; n < 14; n++) {
            is("undo()", twin.undo(), x.undo());
            is("the minutes then", twin.about(6), x.about(6));
            is("the cars then", twin.about(0), x.about(0));
            is("the free cells then", twin.about(9), x.about(9));
        }
        state("no more is remembered", x::undo);
        is("the save slot", twin.restore(0), x.restore(0));
        is("the cars in it", twin.about(0), x.about(0));
        CurbCars full = written("S".repeat(120));
        state("append to a full text", () -> full.append('x'));
        is("the full text", 120, full.clearText());
        CurbCars forty = withFortyGone();
        state("come when 40 came", () -> forty.come(2, 1));
        is("cars", 40, forty.about(0));
        is("it is no action: the minutes are taken back", 13, forty.undo());
        is("none of them", 0, forty.about(6));
    }

    private void wouldBeChangesNothing() {
        CurbCars x = street("Sh20+h41+r2c510c407c810c690p03c399m0000c899c899c899c899c899c899");
        CurbCars twin = street("Sh20+h41+r2c510c407c810c690p03c399m0000c899c899c899c899c899c899");
        x.save(1);
        for (int length = 2; length <= 8; length++) {
            x.why(length);
            x.place(length);
            x.fits(length, 0);
            x.fits(length, 1);
            x.gapIn(length);
            x.mover(length, 0);
            x.mover(length, 1);
            x.jam(length, 99L);
            x.simulate(length, 60);
            x.simulate(-length, 60);
        }
        for (long group : new long[] {120901, 200000, 300000, 400060, 500000, 600001, 679001, 720000, 800000, 920000}) {
            x.runScript(1, group);
        }
        sameLook("the street", look(twin), look(x));
        state("none of them is an action", x::undo);
        is("the minutes that were saved", twin.about(6), x.restore(1));
        is("the text", twin.clearText(), x.clearText());
    }

    private void hydrant() {
        section("Promise 11: hydrant");
        test("Puts a hydrant, or takes it away.", () -> {
            CurbCars x = new CurbCars();
            for (int cell : new int[] {0, 40, 79}) {
                x.hydrant(cell, true);
                is("with, at(" + cell + ")", 100, x.at(cell));
                is("with, the free cells", 79, x.about(9));
                x.hydrant(cell, false);
                is("without, at(" + cell + ")", NONE, x.at(cell));
                is("without, the cells of the gap", 80, x.gap(0, 1));
            }
        });
        test("`x`: cell", () -> {
            CurbCars x = new CurbCars();
            is("hydrant(0, true)", 1, x.hydrant(0, true));
            is("hydrant(79, true)", 2, x.hydrant(79, true));
            is("at(0)", 100, x.at(0));
            is("at(1)", NONE, x.at(1));
            is("at(78)", NONE, x.at(78));
            is("at(79)", 100, x.at(79));
        });
        test("`on`: whether there is one then", () -> {
            CurbCars x = new CurbCars();
            is("without, where none is", 0, x.hydrant(5, false));
            is("still none", NONE, x.at(5));
            is("with", 1, x.hydrant(5, true));
            is("with, where one is", 1, x.hydrant(5, true));
            is("still one", 100, x.at(5));
            is("without", 0, x.hydrant(5, false));
            is("none", NONE, x.at(5));
        });
        test("Returns how many hydrants there are then.", () -> {
            CurbCars x = new CurbCars();
            is("none", 0, x.hydrant(0, false));
            for (int cell = 0; cell < 80; cell++) {
                is("with one more", cell + 1, x.hydrant(cell, true));
            }
            is("80, and one of them again", 80, x.hydrant(79, true));
            for (int cell = 0; cell < 80; cell++) {
                is("with one less", 79 - cell, x.hydrant(cell, false));
            }
        });
        test("Throws `IndexOutOfBoundsException` if there is no such cell", () -> {
            CurbCars x = new CurbCars();
            rangeOutside("hydrant(.., true)", 0, 79, cell -> x.hydrant(cell, true));
            rangeOutside("hydrant(.., false)", 0, 79, cell -> x.hydrant(cell, false));
            is("none is put", 0, x.about(10));
        });
        test("Throws `IllegalStateException` if on is true, and a car stands there", () -> {
            CurbCars x = street("Sh00+c309h00-");
            // car 0 stands on 1 to 3
            is("the cell below it", 1, x.hydrant(0, true));
            is("the cell above it", 2, x.hydrant(4, true));
            for (int cell = 1; cell <= 3; cell++) {
                int c = cell;
                state("hydrant(" + cell + ", true)", () -> x.hydrant(c, true));
                is("hydrant(" + cell + ", false)", 2, x.hydrant(cell, false));
                is("the car still stands there", 0, x.at(cell));
            }
            x.leave(0);
            is("when it left", 3, x.hydrant(1, true));
            CurbCars y = only(0, 1);
            y.come(2, 9);
            is("a car that goes round stands nowhere", 79, y.hydrant(0, true));
        });
    }

    private void come() {
        section("Promise 12: come");
        test("A car comes: it parks if it can, otherwise it goes round (for 0 minutes so far).", () -> {
            CurbCars x = only(0, 8);
            x.come(8, 9);
            is("as many cells as are needed: parked", 0, x.carOf(0, 2));
            is("its place", 0, x.carOf(0, 3));
            is("for no minutes so far", 0, x.carOf(0, 4));
            is("nor gone round", 0, x.carOf(0, 5));
            x.come(2, 9);
            is("no room: goes round", 1, x.carOf(1, 2));
            is("for no minutes so far, going round", 0, x.carOf(1, 5));
            is("without a place", NONE, x.carOf(1, 3));
            CurbCars y = only(0, 7);
            y.come(8, 9);
            is("a cell too few", 1, y.carOf(0, 2));
            y.minutes(3);
            y.come(8, 9);
            is("another that comes later", 0, y.carOf(1, 5));
            y.come(7, 9);
            is("one that finds room, though others go round", 0, y.carOf(2, 2));
        });
        test("`length`: 2 to 8", () -> {
            for (int length = 2; length <= 8; length++) {
                CurbCars x = new CurbCars();
                x.come(length, 5);
                is("its length", length, x.carOf(0, 0));
                is("the free cells", 80 - length, x.about(9));
            }
        });
        test("`stay`: 1 to 99", () -> {
            for (int stay : new int[] {1, 2, 59, 60, 61, 98, 99}) {
                CurbCars x = new CurbCars();
                x.come(2, stay);
                is("its stay", stay, x.carOf(0, 1));
                wait(x, stay - 1);
                is("parked behind a minute less", 0, x.carOf(0, 2));
                x.minutes(1);
                is("left", 2, x.carOf(0, 2));
            }
        });
        test("Returns its number.", () -> {
            CurbCars x = new CurbCars();
            for (int c = 0; c < 40; c++) {
                is("come", c, x.come(8, 99));
            }
            is("nine of them are parked", 9, x.about(1));
        });
        test("Throws `IllegalArgumentException` if length or stay is out of range", () -> {
            CurbCars x = new CurbCars();
            argumentOutside("length", 2, 8, length -> x.come(length, 5));
            argumentOutside("stay", 1, 99, stay -> x.come(5, stay));
            argument("both", () -> x.come(9, 100));
            is("no car came", 0, x.about(0));
        });
        test("Throws `IllegalStateException` if 40 cars came", () -> {
            CurbCars x = new CurbCars();
            for (int c = 0; c < 39; c++) {
                x.come(2, 1);
            }
            is("the 40th", 39, x.come(2, 1));
            state("the 41st", () -> x.come(2, 1));
            x.minutes(60);
            state("when all left", () -> x.come(2, 1));
            x.undo();
            x.undo();
            is("when the 40th is taken back", 39, x.come(2, 1));
            state("and came again", () -> x.come(2, 1));
        });
    }

    private void leave() {
        section("Promise 13: leave");
        test("A parked car leaves.", () -> {
            CurbCars x = street("Sc309c409p02");
            x.leave(1);
            is("its state", 2, x.carOf(1, 2));
            is("its place", NONE, x.carOf(1, 3));
            is("the minutes for which it was parked", 2, x.carOf(1, 4));
            is("the free cells", 77, x.about(9));
            is("the other car", 0, x.carOf(0, 2));
        });
        test("`c`: car", () -> {
            CurbCars x = new CurbCars();
            x.set(1, 0);
            for (int c = 0; c < 40; c++) {
                x.come(2, 9);
            }
            is("leave(0)", 0, x.leave(0));
            is("leave(39)", 78, x.leave(39));
            is("car 38", 0, x.carOf(38, 2));
        });
        test("Returns its place.", () -> {
            CurbCars x = street("Sc809m0072");
            is("the highest of all", 72, x.leave(0));
            CurbCars y = street("Sc809");
            is("the lowest of all", 0, y.leave(0));
        });
        test("Throws `IndexOutOfBoundsException` if there is no such car", () -> {
            CurbCars x = new CurbCars();
            range("no car came", () -> x.leave(0));
            x.come(2, 9);
            rangeOutside("one car came: leave", 0, 0, x::leave);
            rangeOutside("40 cars came: leave", 0, 39, withFortyGone()::leave);
        });
        test("Throws `IllegalStateException` if it is not parked", () -> {
            CurbCars x = allStates();
            for (int c = 1; c <= 4; c++) {
                int n = c;
                state("in state " + x.carOf(c, 2), () -> x.leave(n));
            }
            is("parked", 0, x.leave(0));
            state("left since", () -> x.leave(0));
        });
    }

    private void tow() {
        section("Promise 14: tow");
        test("A parked car is towed.", () -> {
            CurbCars x = street("Sc309c409p02");
            x.tow(1);
            is("its state", 4, x.carOf(1, 2));
            is("its place", NONE, x.carOf(1, 3));
            is("the minutes for which it was parked", 2, x.carOf(1, 4));
            is("the free cells", 77, x.about(9));
            is("the other car", 0, x.carOf(0, 2));
        });
        test("`c`: car", () -> {
            CurbCars x = new CurbCars();
            x.set(1, 0);
            for (int c = 0; c < 40; c++) {
                x.come(2, 50 + c);
            }
            is("tow(0)", 50, x.tow(0));
            is("tow(39)", 89, x.tow(39));
            is("car 38", 0, x.carOf(38, 2));
        });
        test("Returns the minutes for which it would have been parked still.", () -> {
            CurbCars x = street("Sc299c299c201c260");
            is("all of the longest stay", 99, x.tow(0));
            is("all of the shortest stay", 1, x.tow(2));
            wait(x, 59);
            is("the last minute", 1, x.tow(3));
            wait(x, 39);
            is("the last minute of 99", 1, x.tow(1));
        });
        test("Throws `IndexOutOfBoundsException` if there is no such car", () -> {
            CurbCars x = new CurbCars();
            range("no car came", () -> x.tow(0));
            x.come(2, 9);
            rangeOutside("one car came: tow", 0, 0, x::tow);
            rangeOutside("40 cars came: tow", 0, 39, withFortyGone()::tow);
        });
        test("Throws `IllegalStateException` if it is not parked", () -> {
            CurbCars x = allStates();
            for (int c = 1; c <= 4; c++) {
                int n = c;
                state("in state " + x.carOf(c, 2), () -> x.tow(n));
            }
            is("parked", 94, x.tow(0));
            state("towed since", () -> x.tow(0));
        });
    }

    private void move() {
        section("Promise 15: move");
        test("A parked car is moved along; it cannot jump over anything, so all cells from its cells to its new ones have to be "
            + "free but for itself.", () -> {
            CurbCars x = street("Sc399m0040h20+h60+");
            is("over its own cells, up", 1, x.move(0, 41));
            is("over its own cells, down", 2, x.move(0, 39));
            is("not at all", 0, x.move(0, 39));
            is("down to the hydrant", 18, x.move(0, 21));
            state("onto the hydrant below", () -> x.move(0, 20));
            state("over the hydrant below", () -> x.move(0, 17));
            state("far over the hydrant below", () -> x.move(0, 0));
            is("up to the hydrant", 36, x.move(0, 57));
            state("onto the hydrant above", () -> x.move(0, 58));
            state("over the hydrant above", () -> x.move(0, 61));
            state("far over the hydrant above", () -> x.move(0, 77));
            is("it stands where it stood", 57, x.carOf(0, 3));
            is("on three cells", 0, x.at(59));
            is("the cell below it is free", NONE, x.at(56));
            is("its old cells are free", NONE, x.at(21));
            is("the gaps beside the two hydrants and the car", 3, x.about(7));
            CurbCars y = street("Sc299c299m0140m0020");
            is("down to a car", 18, y.move(1, 22));
            state("onto a car", () -> y.move(1, 21));
            state("over a car", () -> y.move(1, 18));
            state("over a car, up", () -> y.move(0, 24));
            state("onto a car, up", () -> y.move(0, 21));
            is("a car beside another can stay", 0, y.move(0, 20));
        });
        test("`c`: car", () -> {
            CurbCars x = new CurbCars();
            x.set(1, 0);
            for (int c = 0; c < 40; c++) {
                x.come(2, 99);
            }
            x.leave(38);
            is("car 39", 2, x.move(39, 76));
            is("car 0, on its place", 0, x.move(0, 0));
            state("car 0, onto car 1", () -> x.move(0, 1));
        });
        test("`x`: its new place", () -> {
            for (int length = 2; length <= 8; length++) {
                CurbCars x = new CurbCars();
                x.come(length, 9);
                x.move(0, 80 - length);
                is("the highest", 80 - length, x.carOf(0, 3));
                is("at(79)", 0, x.at(79));
                x.move(0, 0);
                is("the lowest", 0, x.carOf(0, 3));
                is("at(0)", 0, x.at(0));
                is("free then", NONE, x.at(79));
            }
        });
        test("Returns how many cells it is moved, at least 0.", () -> {
            CurbCars x = street("Sc299");
            is("none", 0, x.move(0, 0));
            is("as many as can be, up", 78, x.move(0, 78));
            is("as many as can be, down", 78, x.move(0, 0));
            is("one, up", 1, x.move(0, 1));
            is("one, down", 1, x.move(0, 0));
        });
        test("Throws `IndexOutOfBoundsException` if there is no such car or cell", () -> {
            CurbCars x = new CurbCars();
            range("no car came", () -> x.move(0, 0));
            x.come(2, 9);
            rangeOutside("one car came: move(.., 0)", 0, 0, c -> x.move(c, 0));
            rangeOutside("move(0, ..)", 0, 79, cell -> x.move(0, cell));
            rangeOutside("40 cars came: move(.., 0)", 0, 39, c -> withFortyGone().move(c, 0));
            CurbCars y = allStates();
            for (int c = 1; c <= 4; c++) {
                int n = c;
                range("no such cell, the car being in state " + y.carOf(c, 2), () -> y.move(n, 80));
                range("a cell below, the car being in state " + y.carOf(c, 2), () -> y.move(n, -1));
            }
        });
        test("Throws `IllegalStateException` if it is not parked, or cannot be moved there (also if it would stand beyond the "
            + "last cell)", () -> {
            CurbCars x = allStates();
            for (int c = 1; c <= 4; c++) {
                int n = c;
                state("in state " + x.carOf(c, 2) + ", to a free cell", () -> x.move(n, 3));
                state("in state " + x.carOf(c, 2) + ", to the cell 0", () -> x.move(n, 0));
            }
            for (int length = 2; length <= 8; length++) {
                CurbCars y = new CurbCars();
                y.come(length, 9);
                for (int place = 81 - length; place < 80; place++) {
                    int p = place;
                    state("length " + length + ": move(0, " + place + ")", () -> y.move(0, p));
                }
                is("to the last cells", 80 - length, y.move(0, 80 - length));
            }
        });
    }

    private void minutes() {
        section("Promise 16: minutes");
        test("Lets minutes go by.", () -> {
            CurbCars x = only(0, 4);
            x.come(4, 2);
            x.come(4, 2);
            x.minutes(1);
            is("one: still parked", 0, x.carOf(0, 2));
            x.minutes(1);
            is("two: left", 2, x.carOf(0, 2));
            is("the other parks at once", 0, x.carOf(1, 2));
            x.undo();
            x.undo();
            x.minutes(4);
            is("four in one call: the other left too", 2, x.carOf(1, 2));
            is("the minutes", 4, x.about(6));
        });
        test("`n`: 1 to 60", () -> {
            for (int n : new int[] {1, 2, 59, 60}) {
                CurbCars x = new CurbCars();
                x.minutes(n);
                is("minutes(" + n + ")", n, x.about(6));
            }
        });
        test("Returns how many cars park in them.", () -> {
            CurbCars x = only(0, 4);
            is("without cars", 0, x.minutes(60));
            x.come(4, 2);
            for (int c = 0; c < 4; c++) {
                x.come(4, 2);
            }
            is("none yet, those parked before do not count", 0, x.minutes(1));
            is("one behind the other till the fourth minute", 2, x.minutes(4));
            is("who gave up parks no more", 0, x.minutes(60));
            CurbCars y = full();
            for (int c = 0; c < 10; c++) {
                y.come(2, 9);
            }
            for (int cell = 0; cell < 21; cell++) {
                y.hydrant(cell, false);
            }
            is("ten in one minute", 10, y.minutes(1));
        });
        test("Throws `IllegalArgumentException` if n is out of range", () -> {
            CurbCars x = new CurbCars();
            argumentOutside("minutes", 1, 60, x::minutes);
            is("none went by", 0, x.about(6));
        });
    }

    private void set() {
        section("Promise 17: set");
        test("Changes a setting.", () -> {
            CurbCars x = new CurbCars();
            x.set(0, 2);
            x.set(1, 3);
            x.set(2, 4);
            is("the first", 2, x.setting(0));
            is("the second", 3, x.setting(1));
            is("the third", 4, x.setting(2));
        });
        test("`what`: 0 to 2", () -> {
            CurbCars x = new CurbCars();
            is("set(0, 1)", 0, x.set(0, 1));
            is("set(2, 1)", 5, x.set(2, 1));
            argument("set(-1, 1)", () -> x.set(-1, 1));
            argument("set(3, 1)", () -> x.set(3, 1));
        });
        test("`v`: the new value, in its range", () -> {
            int[] low = {0, 0, 1};
            int[] high = {2, 4, 30};
            for (int what = 0; what <= 2; what++) {
                CurbCars x = new CurbCars();
                x.set(what, low[what]);
                is("the lowest", low[what], x.setting(what));
                x.set(what, high[what]);
                is("the highest", high[what], x.setting(what));
            }
        });
        test("Returns the previous one.", () -> {
            CurbCars x = new CurbCars();
            is("the rule at first", 0, x.set(0, 2));
            is("the rule then", 2, x.set(0, 0));
            is("the room at first", 1, x.set(1, 4));
            is("the room then", 4, x.set(1, 0));
            is("the minutes at first", 5, x.set(2, 30));
            is("the minutes then", 30, x.set(2, 1));
            is("the same again", 1, x.set(2, 1));
        });
        test("Throws `IllegalArgumentException` if what or v is out of range", () -> {
            CurbCars x = new CurbCars();
            argumentOutside("set(.., 1)", 0, 2, what -> x.set(what, 1));
            argumentOutside("set(0, ..)", 0, 2, v -> x.set(0, v));
            argumentOutside("set(1, ..)", 0, 4, v -> x.set(1, v));
            argumentOutside("set(2, ..)", 1, 30, v -> x.set(2, v));
            argument("both", () -> x.set(3, 31));
            is("the rule", 0, x.setting(0));
            is("the room", 1, x.setting(1));
            is("the minutes", 5, x.setting(2));
        });
    }

    private void undo() {
        section("Promise 18: undo");
        test("Takes back the last action that is remembered.", () -> {
            CurbCars x = street("Sr2c409c830");
            x.set(2, 9);
            x.minutes(9);
            x.hydrant(79, true);
            x.undo();
            is("the hydrant alone", NONE, x.at(79));
            is("not the minutes", 9, x.about(6));
            x.undo();
            is("the minutes", 0, x.about(6));
            is("car 0, which left in them", 0, x.carOf(0, 2));
            is("and the minutes for which it was parked", 0, x.carOf(0, 4));
            is("not the setting", 9, x.setting(2));
            int before = x.place(2);
            x.come(2, 9);
            x.undo();
            is("the long of chance", before, x.place(2));
            range("the car", () -> x.carOf(2, 0));
        });
        test("Returns how many states are still remembered.", () -> {
            CurbCars x = new CurbCars();
            x.minutes(1);
            is("none", 0, x.undo());
            for (int n = 0; n < 14; n++) {
                x.minutes(1);
            }
            is("13 of 14", 13, x.undo());
            x.minutes(1);
            x.minutes(1);
            is("13 of 15", 13, x.undo());
            is("12", 12, x.undo());
            x.minutes(1);
            is("12 again", 12, x.undo());
        });
        test("Throws `IllegalStateException` if none is remembered", () -> {
            CurbCars x = written("S");
            state("a new object", x::undo);
            x.minutes(1);
            x.undo();
            state("all is taken back", x::undo);
            for (int n = 0; n < 20; n++) {
                x.minutes(1);
            }
            for (int n = 0; n < 14; n++) {
                x.undo();
            }
            state("the others are forgotten", x::undo);
            is("their minutes stay", 6, x.about(6));
            x.minutes(1);
            x.load();
            state("behind load", x::undo);
            x.save(0);
            x.minutes(1);
            x.restore(0);
            state("behind restore", x::undo);
            x.why(2);
            x.jam(2, 1L);
            x.save(1);
            state("behind calls that are no actions", x::undo);
        });
    }
}
