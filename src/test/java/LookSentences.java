/** What there is: the promises 6 to 10. */
final class LookSentences extends Sentences {

    LookSentences(Check check) {
        super(check);
        aboutCars();
        aboutTheStreet();
        carOf();
        at();
        gap();
        setting();
    }

    /** The answers of about(what) for a new street, and for one on which 40 cars came and are gone. */
    private void aboutAtTheEnds(int what, int ofNew, int ofForty) {
        is("of a new street", ofNew, new CurbCars().about(what));
        is("when 40 cars came and left", ofForty, withFortyGone().about(what));
    }

    /** Cars 0 and 1 park on 0 to 9, cars 2 and 3 go round. */
    private static CurbCars tight() {
        CurbCars x = only(0, 9);
        x.come(4, 3);
        x.come(4, 30);
        x.come(6, 30);
        x.come(7, 30);
        return x;
    }

    private void aboutCars() {
        section("Promise 6: about");
        test("`what`: 0: the cars that came so far;", () -> {
            aboutAtTheEnds(0, 0, 40);
            CurbCars x = tight();
            is("parked or not", 4, x.about(0));
            x.leave(0);
            x.tow(1);
            x.minutes(9);
            is("wherever they are now", 4, x.about(0));
            CurbCars y = withFortyGone();
            state("the 41st", () -> y.come(2, 1));
            is("no 41st", 40, y.about(0));
        });
        test("1: those parked;", () -> {
            // car 39 of withFortyGone went round at first: the street has room for 39
            aboutAtTheEnds(1, 0, 0);
            CurbCars x = tight();
            is("two", 2, x.about(1));
            x.leave(0);
            is("one left", 1, x.about(1));
            x.tow(1);
            is("the other is towed", 0, x.about(1));
            CurbCars y = street("S");
            y.set(1, 0);
            for (int c = 0; c < 40; c++) {
                y.come(2, 9);
            }
            is("forty", 40, y.about(1));
        });
        test("2: those going round;", () -> {
            aboutAtTheEnds(2, 0, 0);
            CurbCars x = tight();
            is("two", 2, x.about(2));
            x.minutes(3);
            is("car 0 leaves four cells, too few for them", 2, x.about(2));
            x.minutes(2);
            is("both gave up", 0, x.about(2));
            CurbCars y = full();
            for (int c = 0; c < 40; c++) {
                y.come(8, 1);
            }
            is("forty", 40, y.about(2));
        });
        test("3: those that left so far;", () -> {
            aboutAtTheEnds(3, 0, 40);
            CurbCars x = tight();
            is("none", 0, x.about(3));
            x.minutes(3);
            is("by itself", 1, x.about(3));
            x.leave(1);
            is("by leave()", 2, x.about(3));
            x.undo();
            is("which is undone", 1, x.about(3));
        });
        test("4: those that gave up so far;", () -> {
            aboutAtTheEnds(4, 0, 0);
            CurbCars x = tight();
            x.minutes(4);
            is("none yet", 0, x.about(4));
            x.minutes(1);
            is("two", 2, x.about(4));
            CurbCars y = full();
            for (int c = 0; c < 40; c++) {
                y.come(8, 1);
            }
            y.minutes(5);
            is("forty", 40, y.about(4));
        });
        test("5: those towed so far;", () -> {
            aboutAtTheEnds(5, 0, 0);
            CurbCars x = new CurbCars();
            for (int c = 0; c < 40; c++) {
                x.come(8, 9);
                x.tow(c);
                is("so far", c + 1, x.about(5));
            }
        });
        test("11: the minutes for which all cars have been parked so far, together", () -> {
            aboutAtTheEnds(11, 0, 40);
            CurbCars x = tight();
            is("none at first", 0, x.about(11));
            x.minutes(1);
            is("two cars, a minute", 2, x.about(11));
            x.tow(1);
            is("one that is towed counts", 2, x.about(11));
            x.minutes(1);
            is("one car, another minute", 3, x.about(11));
            x.minutes(60);
            is("3 of car 0, 1 of car 1, 30 of car 2, none of car 3, which gave up", 34, x.about(11));
            CurbCars y = new CurbCars();
            y.set(1, 0);
            for (int c = 0; c < 40; c++) {
                y.come(2, 99);
            }
            wait(y, 120);
            is("forty cars, 99 minutes each", 3960, y.about(11));
        });
        test("Throws `IllegalArgumentException` if what is not 0 to 11", () -> {
            CurbCars x = new CurbCars();
            argumentOutside("about", 0, 11, x::about);
            is("about(0)", 0, x.about(0));
            is("about(11)", 0, x.about(11));
        });
    }

    private void aboutTheStreet() {
        section("Promise 6: about");
        test("6: the minutes;", () -> {
            aboutAtTheEnds(6, 0, 10);
            CurbCars x = new CurbCars();
            x.minutes(60);
            x.minutes(1);
            is("all together", 61, x.about(6));
        });
        test("7: the gaps;", () -> {
            aboutAtTheEnds(7, 1, 1);
            is("of a full street", 0, full().about(7));
            is("of one cell", 1, only(79, 79).about(7));
            CurbCars x = new CurbCars();
            for (int cell = 1; cell < 80; cell += 2) {
                x.hydrant(cell, true);
            }
            is("as many as can be", 40, x.about(7));
            x.hydrant(0, true);
            is("the first one is no more", 39, x.about(7));
            x.hydrant(79, false);
            is("the last one has two cells", 39, x.about(7));
            x.hydrant(77, false);
            is("two become one", 38, x.about(7));
        });
        test("8: the cells of the longest gap, 0 without any;", () -> {
            aboutAtTheEnds(8, 80, 80);
            is("without any", 0, full().about(8));
            is("of one cell", 1, only(0, 0).about(8));
            CurbCars x = new CurbCars();
            hydrants(x, 10, 60);
            is("in the middle", 49, x.about(8));
            hydrants(x, 30);
            is("in the middle, the second", 29, x.about(8));
            hydrants(x, 45);
            is("the last one is as long as another", 19, x.about(8));
            hydrants(x, 15, 25);
            is("the last one", 19, x.about(8));
            hydrants(x, 70);
            is("in the middle again", 14, x.about(8));
            CurbCars y = new CurbCars();
            y.hydrant(41, true);
            is("the first one", 41, y.about(8));
        });
        test("9: the free cells;", () -> {
            aboutAtTheEnds(9, 80, 80);
            is("of a full street", 0, full().about(9));
            CurbCars x = tight();
            is("without hydrants and cars", 2, x.about(9));
            x.leave(0);
            is("with those of a car that left", 6, x.about(9));
            x.hydrant(79, false);
            is("with one where a hydrant was", 7, x.about(9));
        });
        test("10: the hydrants;", () -> {
            aboutAtTheEnds(10, 0, 0);
            is("of a full street", 80, full().about(10));
            CurbCars x = street("Sh00+h79+h00+c899c299");
            is("cars are none, one put twice is one", 2, x.about(10));
        });
    }

    private void carOf() {
        section("Promise 7: carOf");
        test("`c`: car", () -> {
            CurbCars x = withFortyGone();
            is("car 0", 2, x.carOf(0, 0));
            is("car 39", 2, x.carOf(39, 0));
            rangeOutside("carOf", 0, 39, c -> x.carOf(c, 0));
        });
        test("`what`: 0: its length;", () -> {
            CurbCars x = tight();
            is("of one that parks", 4, x.carOf(0, 0));
            is("of one that goes round", 7, x.carOf(3, 0));
            x.minutes(60);
            is("of one that left", 4, x.carOf(0, 0));
            is("of one that gave up", 7, x.carOf(3, 0));
            CurbCars y = street("Sc201c899");
            is("the shortest", 2, y.carOf(0, 0));
            is("the longest", 8, y.carOf(1, 0));
        });
        test("1: its stay;", () -> {
            CurbCars x = street("Sc201c899p01");
            is("the shortest, of one that left", 1, x.carOf(0, 1));
            is("the longest, a minute later", 99, x.carOf(1, 1));
        });
        test("2: its state;", () -> {
            CurbCars x = tight();
            x.leave(0);
            is("left", 2, x.carOf(0, 2));
            is("parked", 0, x.carOf(1, 2));
            is("goes round", 1, x.carOf(2, 2));
            x.tow(1);
            is("towed", 4, x.carOf(1, 2));
            x.hydrant(4, true);
            x.minutes(5);
            is("gave up", 3, x.carOf(3, 2));
        });
        test("3: its place, NONE if it is not parked;", () -> {
            CurbCars x = tight();
            is("the place 0", 0, x.carOf(0, 3));
            is("the place behind it", 4, x.carOf(1, 3));
            is("going round", NONE, x.carOf(2, 3));
            x.leave(0);
            is("left", NONE, x.carOf(0, 3));
            x.tow(1);
            is("towed", NONE, x.carOf(1, 3));
            x.hydrant(4, true);
            x.minutes(5);
            is("gave up", NONE, x.carOf(3, 3));
            CurbCars y = street("Sc201m0078");
            is("the highest place", 78, y.carOf(0, 3));
            y.minutes(1);
            is("left by itself", NONE, y.carOf(0, 3));
        });
        test("4: the minutes for which it has been parked so far;", () -> {
            CurbCars x = tight();
            is("none yet", 0, x.carOf(0, 4));
            x.minutes(2);
            is("two", 2, x.carOf(0, 4));
            x.tow(1);
            x.minutes(1);
            is("all of its stay, when it left", 3, x.carOf(0, 4));
            is("as many as when it was towed", 2, x.carOf(1, 4));
            is("none, parked in the last minute", 0, x.carOf(2, 4));
            is("none, going round", 0, x.carOf(3, 4));
        });
        test("5: those for which it has gone round so far;", () -> {
            CurbCars x = tight();
            is("none, parked", 0, x.carOf(0, 5));
            is("none yet", 0, x.carOf(2, 5));
            x.minutes(4);
            is("four", 4, x.carOf(2, 5));
            x.tow(1);
            x.minutes(1);
            is("the minute in which it parks is none", 4, x.carOf(2, 5));
            is("it parks", 0, x.carOf(2, 2));
            is("the minute in which it gives up is one", 5, x.carOf(3, 5));
            x.minutes(9);
            is("and then no more", 5, x.carOf(3, 5));
        });
        test("6: behind how many minutes it leaves, NONE if it is not parked", () -> {
            CurbCars x = tight();
            is("all of its stay", 3, x.carOf(0, 6));
            is("going round", NONE, x.carOf(2, 6));
            x.minutes(2);
            is("the last minute", 1, x.carOf(0, 6));
            x.minutes(1);
            is("left", NONE, x.carOf(0, 6));
            is("the other", 27, x.carOf(1, 6));
            x.tow(1);
            is("towed", NONE, x.carOf(1, 6));
            x.minutes(2);
            is("parked since a minute", 29, x.carOf(2, 6));
            is("gave up", NONE, x.carOf(3, 6));
            is("the longest stay", 99, street("Sc899").carOf(0, 6));
        });
        test("Throws `IndexOutOfBoundsException` if there is no such car", () -> {
            CurbCars x = new CurbCars();
            range("no car came", () -> x.carOf(0, 0));
            range("no car came, and what is wrong too", () -> x.carOf(0, 7));
            x.come(3, 9);
            x.come(8, 9);
            rangeOutside("two cars came: carOf", 0, 1, c -> x.carOf(c, 3));
            rangeOutside("two cars came, and what is wrong too: carOf", 0, 1, c -> x.carOf(c, -1));
            x.undo();
            range("car 1 is taken back", () -> x.carOf(1, 0));
            is("car 0 is not", 3, x.carOf(0, 0));
        });
        test("Throws `IllegalArgumentException` if what is not 0 to 6", () -> {
            CurbCars x = street("Sc209l00c309");
            argumentOutside("carOf(1, ..)", 0, 6, what -> x.carOf(1, what));
            argumentOutside("carOf(0, ..)", 0, 6, what -> x.carOf(0, what));
        });
    }

    private void at() {
        section("Promise 8: at");
        test("`x`: cell", () -> {
            CurbCars x = only(1, 78);
            is("at(0)", 100, x.at(0));
            is("at(1)", NONE, x.at(1));
            is("at(78)", NONE, x.at(78));
            is("at(79)", 100, x.at(79));
        });
        test("Returns the car that stands on it; 100 for a hydrant; NONE if it is free.", () -> {
            CurbCars x = new CurbCars();
            x.set(1, 0);
            for (int c = 0; c < 39; c++) {
                x.come(2, 1);
            }
            x.come(2, 9);
            for (int cell = 0; cell < 80; cell++) {
                is("at(" + cell + ")", cell / 2, x.at(cell));
            }
            x.minutes(1);
            is("a car that left", NONE, x.at(77));
            is("car 39", 39, x.at(78));
            x.hydrant(77, true);
            is("a hydrant", 100, x.at(77));
            x.move(39, 75 + 3);
            is("the last cell", 39, x.at(79));
            x.tow(39);
            is("a car that is towed", NONE, x.at(79));
        });
        test("Throws `IndexOutOfBoundsException` if there is no such cell", () -> {
            CurbCars x = new CurbCars();
            rangeOutside("at", 0, 79, x::at);
        });
    }

    private void gap() {
        section("Promise 9: gap");
        test("`k`: gap", () -> {
            CurbCars x = new CurbCars();
            for (int cell = 1; cell < 80; cell += 2) {
                x.hydrant(cell, true);
            }
            for (int k = 0; k < 40; k++) {
                is("gap(" + k + ", 0)", 2 * k, x.gap(k, 0));
                is("gap(" + k + ", 1)", 1, x.gap(k, 1));
            }
            rangeOutside("gap", 0, 39, k -> x.gap(k, 0));
        });
        test("`what`: 0: its lowest cell; 1: its cells, how many", () -> {
            CurbCars x = new CurbCars();
            is("all, the lowest", 0, x.gap(0, 0));
            is("all, how many", 80, x.gap(0, 1));
            CurbCars y = street("Sh03+h70+c299");
            is("behind a car, the lowest", 2, y.gap(0, 0));
            is("behind a car, how many", 1, y.gap(0, 1));
            is("between hydrants, the lowest", 4, y.gap(1, 0));
            is("between hydrants, how many", 66, y.gap(1, 1));
            is("at the end, the lowest", 71, y.gap(2, 0));
            is("at the end, how many", 9, y.gap(2, 1));
            CurbCars z = only(79, 79);
            is("the last cell, the lowest", 79, z.gap(0, 0));
            is("the last cell, how many", 1, z.gap(0, 1));
        });
        test("Throws `IndexOutOfBoundsException` if there is no such gap", () -> {
            CurbCars x = new CurbCars();
            rangeOutside("one gap: gap", 0, 0, k -> x.gap(k, 0));
            range("what is wrong too", () -> x.gap(1, 2));
            range("what is wrong too, below", () -> x.gap(-1, -1));
            CurbCars y = full();
            range("no gap: gap(0, 0)", () -> y.gap(0, 0));
            range("no gap: gap(0, 1)", () -> y.gap(0, 1));
            range("no gap, what is wrong too", () -> y.gap(0, 2));
        });
        test("Throws `IllegalArgumentException` if what is neither 0 nor 1", () -> {
            CurbCars x = new CurbCars();
            argumentOutside("gap(0, ..)", 0, 1, what -> x.gap(0, what));
        });
    }

    private void setting() {
        section("Promise 10: setting");
        test("`what`: 0 to 2", () -> {
            CurbCars x = new CurbCars();
            is("setting(0)", 0, x.setting(0));
            is("setting(1)", 1, x.setting(1));
            is("setting(2)", 5, x.setting(2));
        });
        test("Returns that setting.", () -> {
            CurbCars x = new CurbCars();
            x.set(0, 2);
            x.set(1, 4);
            x.set(2, 30);
            is("the highest rule", 2, x.setting(0));
            is("the highest room", 4, x.setting(1));
            is("the most minutes", 30, x.setting(2));
            x.set(0, 0);
            x.set(1, 0);
            x.set(2, 1);
            is("the lowest rule", 0, x.setting(0));
            is("the lowest room", 0, x.setting(1));
            is("the fewest minutes", 1, x.setting(2));
        });
        test("Throws `IllegalArgumentException` if what is out of range", () -> {
            CurbCars x = new CurbCars();
            argumentOutside("setting", 0, 2, x::setting);
        });
    }
}
