import java.util.Arrays;

/** What would be: the promises 19 to 24. */
final class WouldBeSentences extends Sentences {

    WouldBeSentences(Check check) {
        super(check);
        why();
        place();
        fits();
        gapIn();
        mover();
        jam();
    }

    private void why() {
        section("Promise 19: why");
        test("Tells why a car cannot park.", () -> {
            CurbCars x = only(0, 8);
            is("as many cells as the longest needs", 0, x.why(8));
            x.come(8, 9);
            is("one cell is left", 1, x.why(2));
            x.leave(0);
            x.move(x.come(2, 9), 2);
            // the gaps have 2 and 5 cells
            is("five cells are too few for five", 2, x.why(5));
            is("no gap has six", 1, x.why(6));
            is("five suffice for four", 0, x.why(4));
        });
        test("`length`: 2 to 8: its length", () -> {
            CurbCars x = only(0, 1);
            CurbCars y = only(0, 8);
            CurbCars z = only(0, 7);
            is("the shortest, without room", 2, x.why(2));
            is("the next one", 1, x.why(3));
            is("the longest, with room", 0, y.why(8));
            is("the longest, without room", 2, z.why(8));
        });
        test("Returns the reason; 0 if it can.", () -> {
            is("a new street", 0, new CurbCars().why(8));
            is("a full street", 1, full().why(2));
            is("a gap of one cell", 1, only(79, 79).why(2));
            CurbCars x = only(77, 79);
            is("a gap of three cells, for 2", 0, x.why(2));
            is("a gap of three cells, for 3", 2, x.why(3));
            is("a gap of three cells, for 4", 1, x.why(4));
            x.set(1, 0);
            is("without room to turn in, for 3", 0, x.why(3));
            is("without room to turn in, for 4", 1, x.why(4));
            for (int rule = 0; rule <= 2; rule++) {
                x.set(0, rule);
                is("by any rule it can", 0, x.why(3));
                is("by any rule it cannot", 1, x.why(4));
            }
            CurbCars forty = withFortyGone();
            is("when 40 cars came", 0, forty.why(2));
        });
        test("Throws `IllegalArgumentException` if length is out of range", () ->
            argumentOutside("why", 2, 8, new CurbCars()::why));
    }

    private void place() {
        section("Promise 20: place");
        test("Tells where a car would park now.", () -> {
            CurbCars x = new CurbCars();
            hydrants(x, 10, 17, 24);
            for (int rule = 0; rule <= 2; rule++) {
                x.set(0, rule);
                for (int length = 2; length <= 8; length++) {
                    int place = x.place(length);
                    is("the same again", place, x.place(length));
                    int c = x.come(length, 9);
                    is("rule " + rule + ", length " + length, x.carOf(c, 3), place);
                    x.undo();
                    is("taken back", place, x.place(length));
                }
            }
            CurbCars y = only(40, 47);
            y.come(8, 9);
            is("a car that goes round does not count", 40, y.place(7));
        });
        test("`length`: 2 to 8: its length", () -> {
            CurbCars x = only(50, 58);
            x.hydrant(3, false);
            x.hydrant(4, false);
            x.hydrant(5, false);
            is("the shortest", 3, x.place(2));
            is("the longest", 50, x.place(8));
        });
        test("Returns its place; NONE if it cannot park.", () -> {
            for (int rule = 0; rule <= 2; rule++) {
                CurbCars none = full();
                none.set(0, rule);
                is("no gap", NONE, none.place(2));
                CurbCars few = only(71, 79);
                few.set(0, rule);
                is("a gap that suffices, by rule " + rule, rule == 2 ? 71 + 908834774 % 2 : 71, few.place(8));
                few.hydrant(71, true);
                is("a cell too few", NONE, few.place(8));
                few.set(1, 0);
                is("without room to turn in", 72, few.place(8));
                few.hydrant(72, true);
                is("a cell too few for the car alone", NONE, few.place(8));
            }
            is("the place 0", 0, new CurbCars().place(8));
            CurbCars highest = only(77, 79);
            highest.set(0, 2);
            highest.come(2, 9);
            highest.leave(0);
            is("the highest place, 1093944153 modulo 2", 78, highest.place(2));
            is("when 40 cars came", 0, withFortyGone().place(2));
        });
        test("Throws `IllegalArgumentException` if length is out of range", () ->
            argumentOutside("place", 2, 8, new CurbCars()::place));
    }

    private void fits() {
        section("Promise 21: fits");
        test("Tells how many more cars would fit.", () -> {
            CurbCars x = street("Sc899c899");
            for (int way = 0; way <= 1; way++) {
                is("more than the two that are there", 7, x.fits(8, way));
                is("none in a full street", 0, full().fits(2, way));
                is("39 of the shortest", 39, new CurbCars().fits(2, way));
                is("9 of the longest", 9, new CurbCars().fits(8, way));
                is("cars that go round do not count", 1, goingRound().fits(4, way));
                is("40 cars that came do not count", 39, withFortyGone().fits(2, way));
            }
            CurbCars y = new CurbCars();
            y.set(1, 0);
            for (int c = 0; c < 21; c++) {
                y.come(2, 9);
                y.leave(c);
            }
            is("40 of the shortest, though 21 came", 40, y.fits(2, 0));
            is("40 by the gaps, though 21 came", 40, y.fits(2, 1));
        });
        test("`length`: 2 to 8: the length of each", () -> {
            int[] want = {39, 26, 19, 15, 13, 11, 9};
            CurbCars x = new CurbCars();
            for (int length = 2; length <= 8; length++) {
                is("parking, length " + length, want[length - 2], x.fits(length, 0));
                is("by the gaps, length " + length, want[length - 2], x.fits(length, 1));
            }
        });
        test("`way`: 0: told by parking cars by the rule 0, one behind the other, till none can;", () -> {
            CurbCars x = only(0, 8);
            for (int rule = 0; rule <= 2; rule++) {
                x.set(0, rule);
                is("rule " + rule + " does not matter, for 4", 2, x.fits(4, 0));
                is("rule " + rule + " does not matter, for 8", 1, x.fits(8, 0));
                is("the rule is as before", rule, x.setting(0));
                x.set(1, 4);
                is("the room does", 1, x.fits(4, 0));
                is("the room does, for 6", 0, x.fits(6, 0));
                x.set(1, 1);
            }
            is("the long of chance is as before", 908834774 % 6, x.place(4));
        });
        test("1: told by the cells of each gap", () -> {
            CurbCars x = new CurbCars();
            hydrants(x, 1, 5, 12, 20);
            // the gaps have 1, 3, 6, 7 and 59 cells
            x.set(1, 4);
            is("gaps with fewer cells than the room", 1 + 1 + 27, x.fits(2, 1));
            is("one with as many as are needed", 1 + 18, x.fits(3, 1));
            x.set(1, 0);
            is("without room", 1 + 3 + 3 + 29, x.fits(2, 1));
            is("the gaps do not count together", 1 + 8, x.fits(7, 1));
        });
        test("Returns how many (the same for both ways).", () -> {
            for (int seed = 1; seed <= 12; seed++) {
                CurbCars x = new CurbCars();
                long chance = seed;
                for (int n = 0; n < 12; n++) {
                    chance = next(chance);
                    x.hydrant(drawn(chance) % 80, true);
                }
                for (int room = 0; room <= 4; room++) {
                    x.set(1, room);
                    for (int length = 2; length <= 8; length++) {
                        is("room " + room + ", length " + length, x.fits(length, 0), x.fits(length, 1));
                    }
                }
            }
        });
        test("Throws `IllegalArgumentException` if length is out of range, or way is neither 0 nor 1", () -> {
            CurbCars x = new CurbCars();
            argumentOutside("fits(.., 0)", 2, 8, length -> x.fits(length, 0));
            argumentOutside("fits(.., 1)", 2, 8, length -> x.fits(length, 1));
            argumentOutside("fits(2, ..)", 0, 1, way -> x.fits(2, way));
            argumentOutside("fits(8, ..)", 0, 1, way -> x.fits(8, way));
            argument("fits(9, 2)", () -> x.fits(9, 2));
        });
    }

    /** Nine free cells, of which a car of 4 took the lowest; a car of 8 goes round. */
    private static CurbCars goingRound() {
        CurbCars x = only(0, 8);
        x.come(4, 9);
        x.come(8, 9);
        return x;
    }

    private void gapIn() {
        section("Promise 22: gapIn");
        test("Tells when there is a gap.", () -> {
            CurbCars x = goingRound();
            is("now", 0, x.gapIn(4));
            is("when car 0 leaves", 9, x.gapIn(5));
            x.minutes(8);
            is("in a minute", 1, x.gapIn(8));
            x.minutes(1);
            is("now, for it left", 0, x.gapIn(8));
        });
        test("`length`: 2 to 8: the length of a car", () -> {
            CurbCars x = only(0, 10);
            x.come(8, 7);
            is("the shortest now", 0, x.gapIn(2));
            is("the next one", 7, x.gapIn(3));
            is("the longest", 7, x.gapIn(8));
        });
        test("Returns behind how many minutes, 0 to 100, a gap suffices for it, if nothing else is done (cars that go round may "
            + "park first); NONE if none does by then.", () -> {
            for (int stay : new int[] {1, 2, 98, 99}) {
                CurbCars x = only(0, 8);
                is("0", 0, x.gapIn(8));
                x.come(8, stay);
                is("a stay of " + stay, stay, x.gapIn(8));
            }
            CurbCars hundred = only(0, 8);
            hundred.come(8, 1);
            hundred.come(8, 99);
            is("100: another parks first when the first one left", 100, hundred.gapIn(2));
            CurbCars more = only(0, 8);
            more.come(8, 2);
            more.come(8, 99);
            is("101 is too many", NONE, more.gapIn(2));
            more.minutes(1);
            is("a minute later it is 100", 100, more.gapIn(2));
            more.minutes(1);
            is("and then 99", 99, more.gapIn(2));
            CurbCars never = only(0, 7);
            is("never", NONE, never.gapIn(8));
            is("never, in a full street", NONE, full().gapIn(2));
            CurbCars round = only(0, 8);
            round.come(8, 6);
            round.come(8, 50);
            is("who goes round gives up before: 6", 6, round.gapIn(8));
            CurbCars some = only(0, 8);
            some.come(8, 3);
            some.come(4, 50);
            is("who parks first leaves enough for 4", 3, some.gapIn(4));
            is("and not for 5", 53, some.gapIn(5));
            is("nothing is different then", 1, some.about(1));
            is("no minutes went by", 0, some.about(6));
        });
        test("Throws `IllegalArgumentException` if length is out of range", () ->
            argumentOutside("gapIn", 2, 8, new CurbCars()::gapIn));
    }

    /** Cars of these lengths at these places, on the cells 0 to 19; the others have hydrants. */
    private static CurbCars placed(int... lengthsAndPlaces) {
        CurbCars x = new CurbCars();
        for (int i = 0; i < lengthsAndPlaces.length; i += 2) {
            x.come(lengthsAndPlaces[i], 99);
        }
        for (int i = lengthsAndPlaces.length - 2; i >= 0; i -= 2) {
            x.move(i / 2, lengthsAndPlaces[i + 1]);
        }
        for (int cell = 20; cell < 80; cell++) {
            x.hydrant(cell, true);
        }
        return x;
    }

    private void isMover(String when, int car, int place, CurbCars x, int length) {
        is(when + ": mover(" + length + ", 0)", car, x.mover(length, 0));
        is(when + ": mover(" + length + ", 1)", place, x.mover(length, 1));
    }

    private void mover() {
        section("Promise 23: mover");
        test("Finds a car that is to be moved.", () -> {
            CurbCars x = placed(6, 7);
            // free are 0 to 6 and 13 to 19
            isMover("up or down by two, the lower", 0, 5, x, 8);
            isMover("up or down by one, the lower", 0, 6, x, 7);
            is("it stays where it is", 7, x.carOf(0, 3));
        });
        test("`length`: 2 to 8: the length of a car", () -> {
            CurbCars x = placed(8, 0, 8, 10);
            // free are 8 9 and 18 19: four cells beside car 1
            isMover("the shortest: by one cell", 1, 9, x, 2);
            isMover("the next one: by two cells", 1, 8, x, 3);
            isMover("one more", NONE, NONE, x, 4);
            isMover("the longest", NONE, NONE, x, 8);
        });
        test("`what`: 0: the lowest number of a parked car that could be moved so that a gap suffices for that length;", () -> {
            CurbCars x = placed(2, 2, 2, 6, 2, 10);
            x.set(1, 0);
            // free are 0 1, 4 5, 8 9, 12 to 19
            x.hydrant(14, true);
            x.hydrant(15, true);
            x.hydrant(16, true);
            x.hydrant(17, true);
            is("of three the lowest number", 0, x.mover(4, 0));
            x.leave(0);
            x.come(2, 99);
            // car 3 stands on 0 1; free are 2 to 5, 8 9, 12 13
            is("not the lowest place: car 1 has six free cells beside it", 1, x.mover(6, 0));
            is("nor one that left", 1, x.mover(5, 0));
            x.tow(1);
            x.set(1, 1);
            // free are 2 to 9, 12 13
            is("nor one that is towed", 2, x.mover(8, 0));
            CurbCars y = placed(4, 0, 4, 4, 4, 9, 2, 15);
            // free are 8, 13 14, 17 to 19
            is("cars without free cells beside them cannot", 3, y.mover(4, 0));
            is("one cell too few", NONE, y.mover(5, 0));
            y.set(1, 0);
            is("without room", 3, y.mover(5, 0));
            is("without room, one too few", NONE, y.mover(6, 0));
            CurbCars z = only(0, 3);
            z.come(2, 9);
            z.come(3, 9);
            is("one that goes round is not parked", NONE, z.mover(8, 0));
            CurbCars forty = onlyTheLastCanBeMoved();
            is("car 39", 39, forty.mover(2, 0));
        });
        test("1: the place to which it is to be moved, of several that with the fewest cells to be moved, of several the lowest", () -> {
            isMover("up is nearer", 0, 9, placed(6, 8), 8);
            isMover("down is nearer", 0, 5, placed(6, 6), 8);
            isMover("the same both ways: down", 0, 5, placed(6, 7), 8);
            // free are 0 to 2 and 9 to 19, of which 15 to 19 get hydrants
            CurbCars x = placed(6, 3);
            hydrants(x, 15, 16, 17, 18, 19);
            isMover("down to the cell 0", 0, 0, x, 8);
            CurbCars y = placed(6, 8);
            hydrants(y, 17, 18, 19);
            // free are 0 to 7 and 14 to 16
            isMover("up by one of three", 0, 9, y, 8);
            CurbCars z = placed(4, 0, 6, 7);
            hydrants(z, 19);
            // free are 4 to 6 and 13 to 18
            isMover("down to the car below, by two of three", 1, 5, z, 7);
            isMover("down as far as can be", 1, 4, z, 8);
            CurbCars up = placed(4, 0, 6, 10);
            hydrants(up, 19);
            // free are 4 to 9 and 16 to 18
            isMover("up as far as can be", 1, 13, up, 8);
            CurbCars atTheEnd = only(68, 79);
            atTheEnd.come(3, 99);
            atTheEnd.move(0, 76);
            // free are 68 to 75 and 79
            isMover("up to the last cells", 0, 77, atTheEnd, 8);
        });
        test("Returns that number; NONE if there is no such car, or a gap suffices now.", () -> {
            isMover("no car at all", NONE, NONE, full(), 2);
            isMover("a gap suffices, without cars", NONE, NONE, new CurbCars(), 8);
            CurbCars x = placed(2, 9);
            // free are 0 to 8 and 11 to 19
            isMover("a gap suffices", NONE, NONE, x, 8);
            x.set(1, 2);
            isMover("and does not, with more room", 0, 8, x, 8);
            x.leave(0);
            x.set(1, 1);
            isMover("a car that left", NONE, NONE, x, 8);
            CurbCars other = placed(2, 2);
            hydrants(other, 6, 7, 8, 9);
            // free are 0 1, 4 5, 10 to 19: car 0 could be moved for 3, but a gap suffices elsewhere
            isMover("a gap elsewhere suffices", NONE, NONE, other, 3);
        });
        test("Throws `IllegalArgumentException` if length or what is out of range", () -> {
            CurbCars x = placed(6, 7);
            argumentOutside("mover(.., 0)", 2, 8, length -> x.mover(length, 0));
            argumentOutside("mover(.., 1)", 2, 8, length -> x.mover(length, 1));
            argumentOutside("mover(8, ..)", 0, 1, what -> x.mover(8, what));
            argumentOutside("mover(2, .., a gap suffices)", 0, 1, what -> x.mover(2, what));
            argument("mover(1, 2)", () -> x.mover(1, 2));
        });
    }

    /** Forty cars came; car 39 stands on 76 and 77, beside it 75, 78 and 79 are free, and no other cell is. */
    private static CurbCars onlyTheLastCanBeMoved() {
        CurbCars x = new CurbCars();
        x.set(1, 0);
        for (int c = 0; c < 40; c++) {
            x.come(2, 99);
        }
        x.leave(38);
        x.leave(37);
        x.move(39, 76);
        x.hydrant(74, true);
        x.set(1, 1);
        return x;
    }

    private void jam() {
        section("Promise 24: jam");
        test("Tells how full the street gets by chance.", () -> {
            is("a full street", 0, full().jam(2, 1L));
            is("a gap for one", 1, only(30, 32).jam(2, 1L));
            is("a cell too few", 0, only(30, 31).jam(2, 1L));
            is("40 cars came", 28, withFortyGone().jam(2, 1L));
            CurbCars x = street("Sc899c899");
            int[] before = look(x);
            is("cars that are there", jammed(x, 5, 1, 9L), x.jam(5, 9L));
            sameLook("nothing is changed", before, look(x));
        });
        test("`length`: 2 to 8: the length of cars that come", () -> {
            for (int length = 2; length <= 8; length++) {
                CurbCars x = new CurbCars();
                is("length " + length, jammed(x, length, 1, 1L), x.jam(length, 1L));
                is("a gap just for it", 1, only(79 - length, 79).jam(length, 1L));
                is("a cell too few", 0, only(80 - length, 79).jam(length, 1L));
            }
        });
        test("`seed`: the long of chance then", () -> {
            long[] seeds = {0L, 1L, -1L, Long.MIN_VALUE, Long.MAX_VALUE, 1L << 33, -(1L << 33), 123456789123456789L};
            for (long seed : seeds) {
                for (int room = 0; room <= 4; room += 2) {
                    CurbCars x = new CurbCars();
                    x.set(1, room);
                    int want = jammed(x, 2, room, seed);
                    is("seed " + seed + ", room " + room, want, x.jam(2, seed));
                    is("the same again", want, x.jam(2, seed));
                }
            }
            CurbCars y = street("Sr2");
            y.jam(2, 5L);
            is("the long of chance of the street is as before", 908834774 % 79, y.place(2));
        });
        test("Returns how many cars park, one behind the other, by the rule 2, till none can.", () -> {
            for (int rule = 0; rule <= 2; rule++) {
                CurbCars x = new CurbCars();
                hydrants(x, 7, 11, 14, 40, 41);
                x.set(0, rule);
                for (long seed = 1; seed <= 8; seed++) {
                    for (int length = 2; length <= 8; length++) {
                        is("length " + length + ", seed " + seed, jammedBeside(length, seed, 7, 11, 14, 40, 41), x.jam(length, seed));
                    }
                }
                is("the rule is as before", rule, x.setting(0));
            }
            CurbCars y = only(0, 3);
            y.set(1, 0);
            // at the seed 1 the first of 908834774 modulo 3 is the place 2, and the second finds 0 and 1
            is("till no gap suffices", 2, y.jam(2, 1L));
            is("no car came", 0, y.about(0));
        });
        test("Throws `IllegalArgumentException` if length is out of range", () -> {
            CurbCars x = new CurbCars();
            argumentOutside("jam(.., 1)", 2, 8, length -> x.jam(length, 1L));
            argumentOutside("jam(.., -1)", 2, 8, length -> x.jam(length, -1L));
        });
    }

    private static int jammed(CurbCars x, int length, int room, long seed) {
        boolean[] free = new boolean[80];
        for (int cell = 0; cell < 80; cell++) {
            free[cell] = x.at(cell) == NONE;
        }
        return jammed(free, length, room, seed);
    }

    private static int jammedBeside(int length, long seed, int... hydrants) {
        boolean[] free = new boolean[80];
        Arrays.fill(free, true);
        for (int cell : hydrants) {
            free[cell] = false;
        }
        return jammed(free, length, 1, seed);
    }

    /** The sentences on rule 2 once more, cell by cell. */
    private static int jammed(boolean[] free, int length, int room, long seed) {
        long chance = seed;
        for (int cars = 0; ; cars++) {
            int[] places = new int[80];
            int count = 0;
            for (int from = 0; from < 80; from++) {
                int end = from;
                while (end < 80 && free[end]) {
                    end++;
                }
                for (int p = from; end - from >= length + room && p + length <= end; p++) {
                    places[count++] = p;
                }
                from = end;
            }
            if (count == 0) {
                return cars;
            }
            chance = next(chance);
            int place = places[drawn(chance) % count];
            for (int cell = place; cell < place + length; cell++) {
                free[cell] = false;
            }
        }
    }
}
