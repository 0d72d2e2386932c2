/** The text: what the document says of it before the promises, and the promises 1 to 5. */
final class TextSentences extends Sentences {

    private static final String ALL_120 = "S" + "p01".repeat(39) + "r2";

    TextSentences(Check check) {
        super(check);
        theBuffer();
        commands();
        reading();
        newObject();
        append();
        clearText();
        errorPosition();
        load();
    }

    private void isError(int want, String text) {
        is("errorPosition() of " + text, want, written(text).errorPosition());
    }

    /** A command with all numbers from low to high in its place, those beside being refused at the digit told. */
    private void numbers(String before, int digits, int low, int high, String after) {
        int all = digits == 1 ? 10 : 100;
        for (int n = 0; n < all; n++) {
            String number = digits == 2 && n < 10 ? "0" + n : "" + n;
            int want = NONE;
            if (n < low || n > high) {
                // the first digit is allowed if some number from low to high begins with it
                boolean first = digits == 2 && n / 10 >= low / 10 && n / 10 <= high / 10;
                want = before.length() + (first ? 1 : 0);
            }
            isError(want, before + number + after);
        }
        for (char c : new char[] {'/', ':', ' ', '+', '-', 'h', 'S', 0, 255, (char) ('0' + 128)}) {
            for (int digit = 0; digit < digits; digit++) {
                isError(before.length() + digit, before + (digit == 1 ? "0" : "") + c + "0" + after);
            }
        }
        for (int cut = 0; cut < digits; cut++) {
            isError(before.length() + cut, before + "0".repeat(cut));
        }
    }

    private void theBuffer() {
        section("TEXT");
        test("The object has a text buffer of at most 120 characters.", () -> {
            CurbCars x = new CurbCars();
            for (int i = 0; i < 120; i++) {
                is("append", i + 1, x.append(ALL_120.charAt(i)));
            }
            state("a 121st", () -> x.append('S'));
            is("a street of 120 characters", NONE, x.errorPosition());
            is("load of 120 characters", 0, x.load());
            is("the command of the last two is done", 2, x.setting(0));
            is("all the commands before it are done", 39, x.about(6));
            is("its length", 120, x.clearText());
        });
        test("A street as a text is the letter S, and then any number of commands;", () -> {
            isError(NONE, "S");
            isError(0, "");
            isError(0, "s");
            isError(0, "r0");
            isError(0, "" + (char) ('S' + 128));
            isError(1, "SS");
            isError(3, "Sr0S");
            isError(NONE, "Sr0");
            isError(NONE, ALL_120);
            isError(NONE, "S" + "l00".repeat(39));
        });
    }

    private void commands() {
        section("TEXT");
        test("a cell is two digits (00 to 79),", () -> {
            numbers("Sh", 2, 0, 79, "+");
            numbers("Sm00", 2, 0, 79, "");
            is("00 and 79 are cells", 2, street("Sh00+h79+").about(10));
            is("00", 100, street("Sh00+").at(0));
            is("79", 100, street("Sh79-h79+").at(79));
        });
        test("a car two digits (00 to 39):", () -> {
            numbers("Sl", 2, 0, 39, "");
            numbers("St", 2, 0, 39, "");
            numbers("Sm", 2, 0, 39, "00");
        });
        test("h, a cell, and + or -: hydrant(), with or without;", () -> {
            isError(NONE, "Sh00+");
            isError(NONE, "Sh79-");
            for (char c : new char[] {',', '*', '.', ' ', '0', 'h', 0, (char) ('+' + 128)}) {
                isError(4, "Sh00" + c);
            }
            isError(4, "Sh00");
            isError(5, "Sh00+0");
            CurbCars x = street("Sh10+h79+h10-h11-h79+");
            is("without again", NONE, x.at(10));
            is("with", 100, x.at(79));
            is("all", 1, x.about(10));
        });
        test("c, a digit for a length (2 to 8), and two for a stay (01 to 99): come();", () -> {
            numbers("Sc", 1, 2, 8, "01");
            numbers("Sc2", 2, 1, 99, "");
            CurbCars x = street("Sc201c899");
            is("the shortest", 2, x.carOf(0, 0));
            is("stays for", 1, x.carOf(0, 1));
            is("the longest", 8, x.carOf(1, 0));
            is("stays for as long as can be", 99, x.carOf(1, 1));
        });
        test("l and a car: leave();", () -> {
            CurbCars x = street("Sc209c309l01");
            is("car 1", 2, x.carOf(1, 2));
            is("car 0", 0, x.carOf(0, 2));
            CurbCars y = street("S" + "c201".repeat(12) + "l11l00");
            is("car 11", 2, y.carOf(11, 2));
            is("car 00", 2, y.carOf(0, 2));
            is("those that left", 2, y.about(3));
        });
        test("t and a car: tow();", () -> {
            CurbCars x = street("Sc209c309t01");
            is("car 1", 4, x.carOf(1, 2));
            is("car 0", 0, x.carOf(0, 2));
            CurbCars y = street("S" + "c201".repeat(12) + "t11t00");
            is("car 11", 4, y.carOf(11, 2));
            is("those towed", 2, y.about(5));
        });
        test("m, a car, and a cell: move();", () -> {
            isError(NONE, "Sm0000");
            isError(NONE, "Sm3979");
            isError(7, "Sm0000m");
            isError(5, "Sm397");
            isError(5, "Sm007");
            is("to the last cells", 78, street("Sc209m0078").carOf(0, 3));
            is("beyond the last cell is left out", 1, written("Sc209m0079").load());
            is("car 1 to its cell", 12, street("Sc209c309m0112").carOf(1, 3));
        });
        test("r and a digit (0 to 2): set() of setting 0;", () -> {
            numbers("Sr", 1, 0, 2, "");
            for (int rule = 0; rule <= 2; rule++) {
                CurbCars x = street("Sr1r" + rule);
                is("setting 0", rule, x.setting(0));
                is("setting 1", 1, x.setting(1));
                is("setting 2", 5, x.setting(2));
            }
        });
        test("p and two digits (01 to 60): minutes().", () -> {
            numbers("Sp", 2, 1, 60, "");
            is("01", 1, street("Sp01").about(6));
            is("60", 60, street("Sp60").about(6));
            is("60 and 09", 69, street("Sp60p09").about(6));
        });
    }

    private void reading() {
        section("TEXT");
        test("Commands that would throw an exception are left out.", () -> {
            CurbCars x = written("Sl00t00m0000c405h00+h03+h04+m0001m0077m0000p05l00t00m0000h00+");
            is("load()", 10, x.load());
            is("the car left by itself", 2, x.carOf(0, 2));
            is("hydrants", 2, x.about(10));
            is("minutes", 5, x.about(6));
            CurbCars y = written("S" + "h00+c880".repeat(13) + "t00l05p01");
            // nine cars of 8 park behind the hydrant on 0, the others go round; a gap of 8 cells does not suffice
            is("a hydrant again throws nothing", 0, y.load());
            is("parked", 7, y.about(1));
            is("go round", 4, y.about(2));
        });
        test("There are no blanks.", () -> {
            isError(0, " S");
            isError(1, "S ");
            isError(1, "S r0");
            isError(2, "Sr 0");
            isError(3, "Sr0 ");
            isError(2, "Sh 00+");
            isError(3, "Sh0 0+");
            isError(4, "Sh00 +");
            isError(2, "Sc 209");
            isError(3, "Sp0 1");
        });
        test("The text is read from left to right.", () -> {
            isError(2, "Sh80+c1");
            isError(6, "Sh79+c1r3");
            isError(1, "Sx3");
            isError(2, "Sh80*");
            isError(3, "Sh7x*");
            isError(2, "Sm4080");
            isError(2, "Sc100");
            isError(2, "Sp7x");
            is("the last of two is so", 0, street("Sr2r0").setting(0));
            is("the car comes behind the hydrant", 1, street("Sh00+c209").carOf(0, 3));
            is("the car comes before it", 0, street("Sc209h00+").carOf(0, 3));
        });
        test("The error position is the index of the first character that these rules do not allow at its place (a digit is "
            + "not allowed if no number that is allowed begins with it and those before it);", () -> {
            isError(2, "Sh8");
            isError(2, "Sh9");
            isError(3, "Sh7");
            isError(2, "Sl4");
            isError(3, "Sl3");
            isError(2, "Sm40");
            isError(4, "Sm398");
            isError(5, "Sm397");
            isError(2, "Sc1");
            isError(2, "Sc9");
            isError(4, "Sc80");
            isError(4, "Sc800");
            isError(3, "Sp0");
            isError(3, "Sp00");
            isError(3, "Sp6");
            isError(3, "Sp61");
            isError(2, "Sp7");
            isError(2, "Sr3");
            isError(119, "S" + "p01".repeat(39) + "r3");
            isError(118, "S" + "p01".repeat(39) + "xx");
            for (int c = 0; c <= 255; c++) {
                isError(0, c == 'S' ? "" : "" + (char) c);
                isError("hcltmrp".indexOf(c) >= 0 ? 2 : 1, "S" + (char) c);
            }
        });
        test("if the text ends too soon, it is the length of the text.", () -> {
            isError(0, "");
            String[] commands = {"h00+", "c201", "l00", "t00", "m0000", "r0", "p01"};
            for (String before : new String[] {"S", "Sh79-", "Sr2p60"}) {
                for (String command : commands) {
                    for (int n = 1; n < command.length(); n++) {
                        isError(before.length() + n, before + command.substring(0, n));
                    }
                    isError(NONE, before + command);
                }
            }
            isError(120, "S" + "r0".repeat(59) + "p");
            isError(120, "S" + "r0".repeat(58) + "m39");
        });
    }

    private void newObject() {
        section("Promise 1: A new object");
        test("Creates a street without hydrants and cars.", () -> {
            CurbCars x = new CurbCars();
            int[] want = {0, 0, 0, 0, 0, 0, 0, 1, 80, 80, 0, 0};
            for (int what = 0; what < want.length; what++) {
                is("about(" + what + ")", want[what], x.about(what));
            }
            for (int cell = 0; cell < 80; cell++) {
                is("at(" + cell + ")", NONE, x.at(cell));
            }
            range("carOf(0, 0)", () -> x.carOf(0, 0));
            state("undo()", x::undo);
            state("restore(0)", () -> x.restore(0));
            state("restore(1)", () -> x.restore(1));
            is("its text is empty", 0, x.clearText());
            x.come(5, 9);
            x.hydrant(79, true);
            x.append('S');
            x.save(0);
            CurbCars other = new CurbCars();
            is("another object has no car", 0, other.about(0));
            is("nor a hydrant", 80, other.about(9));
            is("nor a text", 0, other.clearText());
            state("nor a saved state", () -> other.restore(0));
        });
    }

    private void append() {
        section("Promise 2: append");
        test("Appends a character to the text buffer.", () -> {
            CurbCars x = new CurbCars();
            x.append('S');
            x.append('r');
            x.append('2');
            x.load();
            is("Sr2", 2, x.setting(0));
            x.append('r');
            is("errorPosition()", 4, x.errorPosition());
            x.append('1');
            x.load();
            is("Sr2r1", 1, x.setting(0));
        });
        test("`c`: character code, 0 to 255", () -> {
            CurbCars x = new CurbCars();
            for (int c = 0; c < 120; c++) {
                is("append(" + c + ")", c + 1, x.append(c));
            }
            CurbCars y = new CurbCars();
            for (int c = 136; c < 256; c++) {
                is("append(" + c + ")", c - 135, y.append(c));
            }
            isError(1, "S" + (char) 0);
            isError(1, "S" + (char) 255);
            isError(0, "" + (char) ('S' + 128));
        });
        test("Returns the new length of the text.", () -> {
            CurbCars x = new CurbCars();
            is("of an empty text", 1, x.append('x'));
            for (int n = 2; n <= 120; n++) {
                is("the next", n, x.append(n));
            }
            x.clearText();
            is("of an empty text again", 1, x.append('x'));
        });
        test("Throws `IllegalArgumentException` if c is out of range", () -> {
            CurbCars x = new CurbCars();
            argumentOutside("append", 0, 255, x::append);
            argument("append of S and 256", () -> x.append('S' + 256));
            argument("append of S and 65536", () -> x.append('S' + 65536));
            is("nothing is appended", 0, x.clearText());
        });
        test("Throws `IllegalStateException` if the text already has 120 characters", () -> {
            CurbCars x = written(ALL_120.substring(0, 119));
            is("the 120th", 120, x.append('2'));
            state("the 121st", () -> x.append('2'));
            argument("another that is out of range", () -> x.append(256));
            argument("another below the range", () -> x.append(-1));
            is("the text is as before", NONE, x.errorPosition());
            is("its length", 120, x.clearText());
            is("emptied, it takes one", 1, x.append('S'));
        });
    }

    private void clearText() {
        section("Promise 3: clearText");
        test("Empties the text buffer.", () -> {
            CurbCars x = written(ALL_120);
            x.load();
            x.clearText();
            is("errorPosition()", 0, x.errorPosition());
            state("load()", x::load);
            is("clearText()", 0, x.clearText());
            is("the street is as before", 39, x.about(6));
            x.append('S');
            is("nothing of the old text is left", NONE, x.errorPosition());
            x.load();
            is("nor is it done", 0, x.about(6));
        });
        test("Returns the previous length of the text.", () -> {
            is("of an empty one", 0, new CurbCars().clearText());
            is("of one", 1, written("S").clearText());
            is("of 120", 120, written(ALL_120).clearText());
            CurbCars x = written(ALL_120);
            x.clearText();
            is("of one emptied before", 0, x.clearText());
        });
    }

    private void errorPosition() {
        section("Promise 4: errorPosition");
        test("Checks the text.", () -> {
            CurbCars x = written("Sr2p60h00+c299");
            is("errorPosition()", NONE, x.errorPosition());
            is("it does no command", 0, x.setting(0));
            is("nor lets minutes go by", 0, x.about(6));
            is("it is no action", 0, x.about(0));
            state("undo()", x::undo);
            is("the text is as before", 14, x.clearText());
        });
        test("Returns the error position of the text; NONE if it is a street.", () -> {
            isError(0, "");
            isError(NONE, "S");
            isError(1, "Sx");
            isError(NONE, ALL_120);
            isError(119, ALL_120.substring(0, 119));
            isError(119, ALL_120.substring(0, 119) + "x");
        });
    }

    private void load() {
        section("Promise 5: load");
        test("Makes everything as in a new object, and then does the commands of the text.", () -> {
            CurbCars x = full();
            x.set(0, 2);
            x.set(1, 4);
            x.set(2, 30);
            x.hydrant(0, false);
            x.come(8, 99);
            x.minutes(60);
            write(x, "S");
            x.load();
            sameLook("an empty street behind a full one", look(new CurbCars()), look(x));
            CurbCars y = new CurbCars();
            y.set(0, 2);
            y.come(2, 9);
            write(y, "Sr2");
            y.load();
            is("the long of chance is 1 again", 908834774 % 79, y.place(2));
            CurbCars used = only(0, 4);
            used.come(4, 99);
            used.come(8, 99);
            used.minutes(3);
            write(used, "Sc405c805");
            used.load();
            for (int c = 0; c <= 1; c++) {
                is("minutes for which car " + c + " has been parked", 0, used.carOf(c, 4));
                is("minutes for which car " + c + " has gone round", 0, used.carOf(c, 5));
            }
            CurbCars parkedBefore = only(0, 4);
            parkedBefore.come(4, 99);
            parkedBefore.minutes(3);
            write(parkedBefore, "S");
            parkedBefore.load();
            is("minutes of a car that is no more", 0, parkedBefore.about(11));
            CurbCars roundBefore = full();
            roundBefore.come(2, 99);
            write(roundBefore, "S");
            roundBefore.load();
            is("a car that is no more does not park", 0, roundBefore.minutes(1));
            is("nor stands anywhere", NONE, roundBefore.at(0));
            CurbCars z = written("Sc209p01h79+");
            z.load();
            z.load();
            is("the commands once more, on a new street", 1, z.about(0));
            is("its minutes", 1, z.about(6));
        });
        test("Behind it no state is remembered, and both save slots are empty.", () -> {
            CurbCars x = written("Sr2c209");
            for (int n = 1; n <= 14; n++) {
                x.minutes(n);
            }
            x.save(0);
            x.save(1);
            x.load();
            state("undo()", x::undo);
            state("restore(0)", () -> x.restore(0));
            state("restore(1)", () -> x.restore(1));
            x.minutes(1);
            is("undo() of an action behind it", 0, x.undo());
            is("is the street that was loaded", 1, x.about(0));
            state("no more", x::undo);
        });
        test("Keeps the text, also if it throws the exception.", () -> {
            CurbCars x = written("Sr2");
            x.load();
            is("a street", 3, x.clearText());
            CurbCars y = written("Sr3");
            state("load()", y::load);
            is("no street", 3, y.clearText());
            CurbCars z = written("S" + "r0".repeat(59) + "p");
            state("load() of a full text that ends too soon", z::load);
            is("a full text", 120, z.clearText());
        });
        test("Returns the number of commands that are left out.", () -> {
            is("no command", 0, written("S").load());
            is("none of one", 0, written("Sr0").load());
            is("all of one", 1, written("Sl00").load());
            is("all of 39", 39, written("S" + "t39".repeat(39)).load());
            is("one between two", 1, written("Sc209l01l00").load());
            is("a car goes round: none is left out", 0, written("S" + "c899".repeat(29)).load());
            is("a car that goes round can't leave", 1, written("S" + "c899".repeat(10) + "l09").load());
        });
        test("Throws `IllegalStateException` if the text is not a street", () -> {
            for (String text : new String[] {"", "s", "Sx", "Sh80+", "Sh79", "Sp61", "Sr0 ", ALL_120.substring(0, 119)}) {
                CurbCars x = new CurbCars();
                x.come(3, 9);
                x.save(0);
                x.minutes(2);
                write(x, text);
                state("load() of " + text, x::load);
                is("the street is as before", 2, x.about(6));
                is("so are the states that are remembered", 1, x.undo());
                is("so is the save slot", 0, x.restore(0));
            }
        });
    }
}
