/** What the document says before the promises: the street, cars, a minute, settings. */
final class TermsSentences extends Sentences {

    TermsSentences(Check check) {
        super(check);
        use();
        terms();
        theStreet();
        cars();
        rules();
        chance();
        reasons();
        aMinute();
        settings();
    }

    private void use() {
        section("What it is");
        test("An object is used for at most 512 calls after it has been made; what later calls answer is free.", () -> {
            CurbCars x = new CurbCars();
            for (int i = 0; i < 512; i++) {
                boolean on = i / 80 % 2 == 0;
                is("call " + (i + 1), on ? i % 80 + 1 : 79 - i % 80, x.hydrant(i % 80, on));
            }
        });
    }

    private void terms() {
        section("Terms");
        test("It tells how many more cars would fit, in two ways that must agree, when there is a gap, which car is to be "
            + "moved, how full the street gets by chance.", () -> {
            for (int cells = 0; cells <= 20; cells++) {
                CurbCars x = only(30, 29 + cells);
                for (int room = 0; room <= 4; room++) {
                    x.set(1, room);
                    for (int length = 2; length <= 8; length++) {
                        int want = 0;
                        for (int left = cells; left >= length + room; left -= length) {
                            want++;
                        }
                        String of = cells + " cells, room " + room + ": fits(" + length + ", ";
                        is(of + "0)", want, x.fits(length, 0));
                        is(of + "1)", want, x.fits(length, 1));
                    }
                }
            }
        });
        test("Changes can be undone.", () -> {
            CurbCars x = new CurbCars();
            x.come(8, 99);
            x.undo();
            is("cars", 0, x.about(0));
            is("free cells", 80, x.about(9));
        });
        test("All divisions are rounded down.", () -> {
            CurbCars x = only(0, 11);
            is("11 / 4", 2, x.fits(4, 1));
            is("11 / 3", 3, x.fits(3, 1));
            is("11 / 6", 1, x.fits(6, 1));
            CurbCars y = new CurbCars();
            y.hydrant(63, true);
            is("q is 383, 383 / 128 is 2", 79, y.simulate(seedFor(8 * 383 + 4, 0), 1));
            is("q is 384, 384 / 128 is 3", 79, y.simulate(seedFor(8 * 384 + 4, 0), 1));
            is("q is 127, 127 / 128 is 0", 79, y.simulate(seedFor(8 * 127 + 4, 0), 1));
            is("q is 143, 143 / 128 is 1 and the cell 63", 79, y.simulate(seedFor(8 * 143 + 4, 0), 1));
            is("q is 128, 128 / 128 is 1", 78, y.simulate(seedFor(8 * 128 + 4, 0), 1));
        });
    }

    private void theStreet() {
        section("THE STREET");
        test("The street has 80 cells, numbered from 0.", () -> {
            CurbCars x = new CurbCars();
            is("free cells", 80, x.about(9));
            is("at(0)", NONE, x.at(0));
            is("at(79)", NONE, x.at(79));
            range("at(-1)", () -> x.at(-1));
            range("at(80)", () -> x.at(80));
        });
        test("A cell may have a hydrant (at first none has).", () -> {
            CurbCars x = new CurbCars();
            is("at first", 0, x.about(10));
            for (int cell = 0; cell < 80; cell++) {
                is("at(" + cell + ") at first", NONE, x.at(cell));
                is("hydrant(" + cell + ", true)", cell + 1, x.hydrant(cell, true));
                is("at(" + cell + ") then", 100, x.at(cell));
            }
        });
        test("A cell is free if it has no hydrant, and no car stands on it.", () -> {
            CurbCars x = street("Sh06+c299c399");
            int[] want = {0, 0, 1, 1, 1, NONE, 100, NONE};
            for (int cell = 0; cell < want.length; cell++) {
                is("at(" + cell + ")", want[cell], x.at(cell));
            }
            is("free cells", 74, x.about(9));
            x.hydrant(6, false);
            x.leave(0);
            is("free cells without the hydrant and car 0", 77, x.about(9));
            CurbCars y = full();
            is("free cells, all with hydrants", 0, y.about(9));
        });
        test("A gap is a row of free cells, one behind the other, as long as it can be", () -> {
            CurbCars x = new CurbCars();
            is("one gap of all cells", 80, x.gap(0, 1));
            hydrants(x, 1, 40, 78);
            int[] start = {0, 2, 41, 79};
            int[] cells = {1, 38, 37, 1};
            is("gaps", 4, x.about(7));
            for (int k = 0; k < 4; k++) {
                is("gap(" + k + ", 0)", start[k], x.gap(k, 0));
                is("gap(" + k + ", 1)", cells[k], x.gap(k, 1));
            }
            x.come(8, 9);
            is("a car ends a gap too", 10, x.gap(1, 0));
            is("gaps with a car at the end of one", 4, x.about(7));
            is("none of a full street", 0, full().about(7));
        });
        test("gaps are numbered from 0, from the cell 0 on.", () -> {
            CurbCars x = new CurbCars();
            hydrants(x, 0, 79, 10, 70);
            is("gap(0, 0)", 1, x.gap(0, 0));
            is("gap(1, 0)", 11, x.gap(1, 0));
            is("gap(2, 0)", 71, x.gap(2, 0));
            range("gap(3, 0): the last cells and the first are no gap together", () -> x.gap(3, 0));
            range("gap(-1, 0)", () -> x.gap(-1, 0));
        });
    }

    private void cars() {
        section("CARS");
        test("There are at most 40 cars ever", () -> {
            CurbCars x = new CurbCars();
            for (int c = 0; c < 40; c++) {
                is("car " + c + " comes", c, x.come(2, 1));
                x.leave(c);
            }
            state("a 41st comes to an empty street", () -> x.come(2, 1));
            is("cars", 40, x.about(0));
        });
        test("numbered from 0 in the order in which they came", () -> {
            CurbCars x = only(0, 4);
            is("the first", 0, x.come(4, 1));
            is("one that goes round", 1, x.come(8, 1));
            is("a third", 2, x.come(2, 1));
            x.leave(0);
            is("a number of a car that left is not used again", 3, x.come(3, 9));
            is("length of car 0", 4, x.carOf(0, 0));
            is("length of car 3", 3, x.carOf(3, 0));
        });
        test("each with a length of 2 to 8 cells", () -> {
            CurbCars x = new CurbCars();
            is("2", 0, x.come(2, 9));
            is("8", 1, x.come(8, 9));
            argument("1", () -> x.come(1, 9));
            argument("9", () -> x.come(9, 9));
        });
        test("a stay of 1 to 99 minutes", () -> {
            CurbCars x = new CurbCars();
            is("1", 0, x.come(2, 1));
            is("99", 1, x.come(2, 99));
            argument("0", () -> x.come(2, 0));
            argument("100", () -> x.come(2, 100));
        });
        test("and a state: 0 parked, 1 going round, 2 left, 3 gave up, 4 towed.", () -> {
            CurbCars x = only(0, 14);
            for (int c = 0; c < 3; c++) {
                x.come(4, 9);
            }
            x.come(6, 9);
            x.leave(0);
            x.tow(1);
            x.set(2, 1);
            is("left", 2, x.carOf(0, 2));
            is("towed", 4, x.carOf(1, 2));
            is("parked", 0, x.carOf(2, 2));
            is("goes round", 1, x.carOf(3, 2));
            x.hydrant(4, true);
            x.minutes(1);
            is("gave up", 3, x.carOf(3, 2));
        });
        test("A parked car stands on as many cells as its length, one behind the other; its place is the lowest one of these.", () -> {
            for (int length = 2; length <= 8; length++) {
                CurbCars x = new CurbCars();
                x.come(length, 9);
                is("length " + length + ": its place when it came", 0, x.carOf(0, 3));
                for (int cell = 0; cell < 80; cell++) {
                    is("length " + length + ": at(" + cell + ") when it came", cell < length ? 0 : NONE, x.at(cell));
                }
                x.move(0, 80 - length);
                is("its place", 80 - length, x.carOf(0, 3));
                is("behind its lowest cell", NONE, x.at(79 - length));
                for (int cell = 80 - length; cell < 80; cell++) {
                    is("length " + length + ": at(" + cell + ")", 0, x.at(cell));
                }
                x.move(0, 0);
                is("its place at the other end", 0, x.carOf(0, 3));
                is("its highest cell", 0, x.at(length - 1));
                is("above its highest cell", NONE, x.at(length));
            }
        });
        test("A gap suffices for a car if it has at least as many cells as the car's length and setting 1, together.", () -> {
            for (int cells = 1; cells <= 13; cells++) {
                CurbCars x = only(67, 66 + cells);
                for (int room = 0; room <= 4; room++) {
                    x.set(1, room);
                    for (int length = 2; length <= 8; length++) {
                        String of = cells + " cells, room " + room + ", length " + length;
                        is(of, cells >= length + room ? 67 : NONE, x.place(length));
                    }
                }
            }
        });
    }

    private void rules() {
        section("CARS");
        test("A car parks, if any gap suffices, by the rule (setting 0):", () -> {
            for (int rule = 0; rule <= 2; rule++) {
                CurbCars x = only(20, 24);
                x.hydrant(10, false);
                x.set(0, rule);
                x.come(5, 9);
                is("rule " + rule + ", a cell too few", 1, x.carOf(0, 2));
                x.come(4, 9);
                is("rule " + rule + ", enough cells", 0, x.carOf(1, 2));
                x.come(2, 9);
                is("rule " + rule + ", no cells left for it", 1, x.carOf(2, 2));
            }
        });
        test("0: in the lowest gap that suffices, on its lowest cells;", () -> {
            CurbCars x = new CurbCars();
            hydrants(x, 5, 12, 79);
            // the gaps are 0 to 4, 6 to 11, and 13 to 78
            is("as many cells as are needed", 0, x.place(4));
            is("a cell too few in the first", 6, x.place(5));
            is("a cell too few in the second", 13, x.place(6));
            x.come(5, 9);
            is("it stands there", 6, x.carOf(0, 3));
            is("and leaves the highest cell", NONE, x.at(11));
        });
        test("1: in the shortest gap that suffices, of several the lowest, on its lowest cells;", () -> {
            CurbCars x = new CurbCars();
            hydrants(x, 10, 16, 23, 30, 37);
            x.set(0, 1);
            // the gaps have 10, 5, 6, 6, 6 and 42 cells: from 0, 11, 17, 24, 31, 38
            is("the shortest", 11, x.place(4));
            is("of three the lowest", 17, x.place(5));
            is("longer than the shortest", 0, x.place(6));
            x.come(5, 9);
            is("on its lowest cells", 17, x.carOf(0, 3));
            is("and leaves the highest", NONE, x.at(22));
            is("of two the lowest", 24, x.place(5));
            x.set(1, 3);
            is("the shortest that suffices, of ten", 0, x.place(7));
            x.set(1, 4);
            is("the shortest that suffices, the last one", 38, x.place(7));
            CurbCars y = new CurbCars();
            y.set(0, 1);
            is("one gap of all cells", 0, y.place(8));
        });
    }

    private void chance() {
        section("CARS");
        test("2: by chance: all places are counted at which the car would stand on free cells of a gap that suffices, "
            + "from the lowest one on;", () -> {
            CurbCars x = street("Sh03+h06+h20+r2");
            int[] from = {0, 4, 7, 21};
            int[] cells = {3, 2, 13, 59};
            long chance = 1;
            for (int c = 0; c < 40; c++) {
                int length = 2 + c % 7;
                chance = next(chance);
                int[] places = new int[80];
                int count = 0;
                for (int k = 0; k < 4; k++) {
                    for (int p = from[k]; cells[k] >= length + 1 && p + length <= from[k] + cells[k]; p++) {
                        places[count++] = p;
                    }
                }
                x.come(length, 9);
                is("car " + c + " of length " + length, places[drawn(chance) % count], x.carOf(c, 3));
                x.leave(c);
            }
        });
        test("the long of chance (at first 1) becomes it * 6364136223846793005L + 1442695040888963407L (with long overflow)", () -> {
            CurbCars x = street("Sr2");
            // 908834774, and then, the long having overflown and being negative, 1093944153
            is("the first", 908834774 % 79, x.place(2));
            x.come(2, 9);
            x.leave(0);
            is("the second", 1093944153 % 79, x.place(2));
            int negative = 0;
            long chance = 1;
            CurbCars y = street("Sr2");
            for (int c = 0; c < 40; c++) {
                chance = next(chance);
                negative += chance < 0 ? 1 : 0;
                y.come(8, 9);
                is("car " + c, drawn(chance) % 73, y.carOf(c, 3));
                y.tow(c);
            }
            is("some of the longs are negative", 1, negative > 5 ? 1 : 0);
        });
        test("and the car parks at the place of the number (int) (the long >>> 33) modulo as many as these are.", () -> {
            // 908834774 modulo 2, 3, 5, 25 is 0 and, of the others, the highest number
            CurbCars two = only(10, 12);
            two.set(0, 2);
            is("of two places the lowest", 10, two.place(2));
            CurbCars three = only(10, 13);
            three.set(0, 2);
            is("of three places the highest", 12, three.place(2));
            CurbCars twentyFive = only(0, 25);
            twentyFive.set(0, 2);
            is("of 25 places the highest", 24, twentyFive.place(2));
            CurbCars one = only(78, 79);
            one.set(0, 2);
            one.set(1, 0);
            is("of one place this one", 78, one.place(2));
            CurbCars parts = only(60, 62);
            parts.set(0, 2);
            parts.hydrant(70, false);
            parts.hydrant(71, false);
            parts.hydrant(0, false);
            is("of the places of one gap among others that do not suffice", 60, parts.place(2));
        });
        test("A car parks, if any gap suffices, by the rule (setting 0):", () -> {
            CurbCars x = only(0, 4);
            x.set(0, 2);
            x.come(5, 9);
            x.minutes(5);
            x.set(0, 0);
            x.come(3, 9);
            x.leave(1);
            x.set(0, 2);
            is("the long of chance is used by those alone that park by rule 2: 908834774 modulo 4", 2, x.place(2));
            x.come(2, 9);
            is("and by those it is", 2, x.carOf(2, 3));
            x.leave(2);
            is("once: 1093944153 modulo 4", 1, x.place(2));
        });
    }

    private void reasons() {
        section("CARS");
        test("A car cannot park for the first of these reasons that is so: 1: no gap has as many cells as its length; "
            + "2: no gap suffices.", () -> {
            for (int room = 0; room <= 4; room++) {
                for (int cells = 0; cells <= 13; cells++) {
                    CurbCars x = only(80 - cells, 79);
                    x.set(1, room);
                    for (int length = 2; length <= 8; length++) {
                        int want = cells < length ? 1 : cells < length + room ? 2 : 0;
                        is(cells + " cells, room " + room + ": why(" + length + ")", want, x.why(length));
                    }
                }
            }
            CurbCars y = only(0, 3);
            y.hydrant(40, false);
            y.hydrant(41, false);
            y.hydrant(42, false);
            is("two gaps do not count together", 1, y.why(5));
            is("the longest counts, it is the first", 2, y.why(4));
            y.hydrant(43, false);
            y.hydrant(44, false);
            is("the longest counts, it is the second", 0, y.why(4));
        });
    }

    private void aMinute() {
        section("A MINUTE");
        test("The minutes (0 at first) become 1 more.", () -> {
            CurbCars x = new CurbCars();
            is("at first", 0, x.about(6));
            x.minutes(1);
            is("then", 1, x.about(6));
            wait(x, 600);
            is("then, by far", 601, x.about(6));
        });
        test("Then each parked car that has been parked for as many minutes as its stay leaves.", () -> {
            CurbCars x = new CurbCars();
            x.come(2, 1);
            x.come(2, 99);
            x.come(2, 2);
            is("a stay of 1, before", 0, x.carOf(0, 2));
            x.minutes(1);
            is("a stay of 1, behind a minute", 2, x.carOf(0, 2));
            is("a stay of 2, behind a minute", 0, x.carOf(2, 2));
            x.minutes(1);
            is("a stay of 2, behind two", 2, x.carOf(2, 2));
            wait(x, 96);
            is("a stay of 99, behind 98", 0, x.carOf(1, 2));
            x.minutes(1);
            is("a stay of 99, behind 99", 2, x.carOf(1, 2));
            is("its minutes", 99, x.carOf(1, 4));
            x.minutes(1);
            is("its minutes when it left", 99, x.carOf(1, 4));
        });
        test("Then each car that goes round, by numbers, parks if it can;", () -> {
            CurbCars x = only(0, 8);
            x.come(8, 3);
            x.come(8, 9);
            x.come(4, 1);
            x.come(5, 9);
            x.come(4, 9);
            x.leave(0);
            x.hydrant(8, true);
            is("the first that can park does, and leaves no room for the others", 1, x.minutes(1));
            is("the lowest number is too long", 1, x.carOf(1, 2));
            is("the next one parks", 0, x.carOf(2, 2));
            is("the one behind it finds three cells", 1, x.carOf(3, 2));
            is("in the next minute the cells are free before the others look", 1, x.minutes(1));
            is("the lowest that can", 0, x.carOf(3, 2));
            is("who parks in a minute has been parked for none", 0, x.carOf(3, 4));
            is("nor has it gone round for it", 1, x.carOf(3, 5));
            CurbCars y = only(0, 8);
            y.come(8, 1);
            y.come(4, 9);
            y.come(4, 9);
            is("two find room in one minute", 2, y.minutes(1));
            is("the lower number on the lower cells", 0, y.carOf(1, 3));
            is("the other behind it", 4, y.carOf(2, 3));
        });
        test("otherwise it has gone round for a minute more, and gives up if that makes setting 2 or more.", () -> {
            for (int patience : new int[] {1, 2, 5, 30}) {
                CurbCars x = full();
                x.set(2, patience);
                x.come(2, 1);
                for (int n = 1; n < patience; n++) {
                    x.minutes(1);
                    is("setting 2 is " + patience + ", behind " + n, 1, x.carOf(0, 2));
                    is("it has gone round for " + n, n, x.carOf(0, 5));
                }
                x.minutes(1);
                is("setting 2 is " + patience + ", behind as many", 3, x.carOf(0, 2));
                x.minutes(1);
                is("minutes for which it has gone round", patience, x.carOf(0, 5));
            }
            CurbCars y = full();
            y.set(2, 10);
            y.come(2, 1);
            y.come(3, 1);
            y.minutes(6);
            y.set(2, 3);
            is("a lower setting alone does nothing", 1, y.carOf(0, 2));
            hydrantsAway(y, 0, 2);
            is("in the last minute it still parks if it can", 1, y.minutes(1));
            is("parks", 0, y.carOf(0, 2));
            is("it has gone round for", 6, y.carOf(0, 5));
            is("more than setting 2", 3, y.carOf(1, 2));
            is("the other has gone round for", 7, y.carOf(1, 5));
            y.leave(0);
            is("who gave up does not park", 0, y.minutes(1));
        });
    }

    private static void hydrantsAway(CurbCars x, int low, int high) {
        for (int cell = low; cell <= high; cell++) {
            x.hydrant(cell, false);
        }
    }

    private void settings() {
        section("SETTINGS");
        test("0: the rule, 0 to 2, at first 0;", () -> setting(0, 0, 2, 0));
        test("1: room to turn in, 0 to 4, at first 1;", () -> setting(1, 0, 4, 1));
        test("2: the minutes for which cars go round, 1 to 30, at first 5.", () -> setting(2, 1, 30, 5));
    }

    private void setting(int what, int low, int high, int first) {
        CurbCars x = new CurbCars();
        is("at first", first, x.setting(what));
        argumentOutside("set(" + what + ", ..)", low, high, v -> x.set(what, v));
        is("still as at first", first, x.setting(what));
        int before = first;
        for (int v = low; v <= high; v++) {
            is("set(" + what + ", " + v + ")", before, x.set(what, v));
            is("setting(" + what + ")", v, x.setting(what));
            before = v;
        }
        CurbCars y = street("S");
        is("at first behind load", first, y.setting(what));
    }
}
