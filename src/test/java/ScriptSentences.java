/** Scripts, simulations and save slots: the promises 25 to 28. */
final class ScriptSentences extends Sentences {

    ScriptSentences(Check check) {
        super(check);
        scripts();
        scriptCommands();
        anyGroup();
        simulations();
        turns();
        answersOfSimulate();
        save();
        restore();
    }

    // ---- scripts

    private void isScript(int want, CurbCars x, String groups) {
        String digits = groups.replace(" ", "");
        is("runScript of " + groups, want, x.runScript(digits.length() / 6, Long.parseLong(digits)));
    }

    private void scripts() {
        section("Promise 25: runScript");
        test("Runs a script on a copy of the state.", () -> {
            CurbCars x = street("Sc409r2");
            int[] before = look(x);
            isScript(NONE, x, "200000 150901 400060");
            isScript(NONE, x, "510040 520300 679001");
            isScript(NONE, x, "300700 500000 120901");
            sameLook("behind it", before, look(x));
            state("none of it is an action", x::undo);
            isScript(NONE, x, "800000");
            isScript(NONE, x, "200000 800002");
            isScript(NONE, x, "800000");
        });
        test("A script has 1 to 3 commands; each is a group of six decimal digits d1 to d6, and the first command is the highest "
            + "group of the number (with zeros before it, if it has fewer digits).", () -> {
            CurbCars x = street("Sc409");
            isScript(NONE, x, "200000");
            isScript(NONE, x, "400008 200000");
            isScript(1, x, "400009 200000");
            isScript(1, x, "200000 200000 400001");
            isScript(NONE, x, "400001 400007 200000");
            isScript(2, x, "400001 400008 200000");
            is("zeros before a group of two", 0, x.runScript(2, 400001L));
            is("zeros before a group of three", 0, x.runScript(3, 400001400001L));
            is("a group with one digit less", 0, x.runScript(1, 40001L));
            is("a group with one digit less, before another", 0, x.runScript(2, 40001400001L));
            is("nothing but zeros", 0, x.runScript(3, 0L));
        });
        test("`n`: number of commands, 1 to 3", () -> {
            CurbCars x = new CurbCars();
            is("1", NONE, x.runScript(1, 400001L));
            is("2", NONE, x.runScript(2, 400001400001L));
            is("3", NONE, x.runScript(3, 400001400001400001L));
        });
        test("`script`: the commands, a number of at most 6 * n digits (0 or more)", () -> {
            CurbCars x = new CurbCars();
            for (int n = 1; n <= 3; n++) {
                is("0", 0, x.runScript(n, 0L));
                is("1", 0, x.runScript(n, 1L));
            }
            is("six digits", 0, x.runScript(1, 999999L));
            is("twelve digits", 0, x.runScript(2, 999999999999L));
            is("eighteen digits", 0, x.runScript(3, 999999999999999999L));
            is("eighteen digits, the last group being looked at", 2, x.runScript(3, 400001400001999999L));
        });
        test("Returns the index, from 0, of the first command that fails; NONE if all succeed.", () -> {
            CurbCars x = street("Sc409");
            isScript(0, x, "200001");
            isScript(0, x, "200001 200001 200001");
            isScript(1, x, "400001 200001 200001");
            isScript(2, x, "400001 400001 200001");
            isScript(NONE, x, "400001 400001 200000");
            isScript(0, x, "000000 400001 400001");
        });
        test("Throws `IllegalArgumentException` if n is out of range, or if script is negative or has more than 6 * n digits", () -> {
            CurbCars x = new CurbCars();
            argumentOutside("runScript(.., 400001)", 1, 3, n -> x.runScript(n, 400001L));
            argumentOutside("runScript(.., -1)", 1, 3, n -> x.runScript(n, -1L));
            for (int n = 1; n <= 3; n++) {
                int commands = n;
                argument("-1", () -> x.runScript(commands, -1L));
                argument("-400001", () -> x.runScript(commands, -400001L));
                argument("the lowest", () -> x.runScript(commands, Long.MIN_VALUE));
                argument("the highest", () -> x.runScript(commands, Long.MAX_VALUE));
                argument("19 digits", () -> x.runScript(commands, 1000000000000000000L));
            }
            argument("seven digits", () -> x.runScript(1, 1000000L));
            argument("seven digits, the last six being a command", () -> x.runScript(1, 1400001L));
            argument("thirteen digits", () -> x.runScript(2, 1000000000000L));
            argument("twelve digits for one command", () -> x.runScript(1, 400001400001L));
        });
    }

    private void scriptCommands() {
        section("Promise 25: runScript");
        test("1 l s s 0 b: come(l, ss); succeeds if it parks and b is 1, or does not and b is 0.", () -> {
            CurbCars x = only(0, 4);
            isScript(NONE, x, "140101");
            isScript(0, x, "140100");
            isScript(NONE, x, "150100");
            isScript(0, x, "150101");
            isScript(NONE, x, "120101 800000 130100");
            isScript(NONE, x, "149901 400060 800000");
            isScript(NONE, x, "140101 400001 800002");
            isScript(NONE, x, "140901 400008 800000");
            isScript(NONE, x, "150900 400004 800001");
            isScript(NONE, x, "150900 400005 800003");
            isScript(0, x, "140102");
            isScript(0, x, "150102");
            isScript(0, x, "150110");
            isScript(NONE, new CurbCars(), "180101");
        });
        test("2 c c 0 0 0: leave(cc).", () -> {
            CurbCars x = street("S" + "c299".repeat(12) + "l05");
            isScript(NONE, x, "200000 800002 801000");
            isScript(NONE, x, "211000 811002 801000");
            isScript(0, x, "205000");
            isScript(0, x, "212000");
            isScript(1, x, "200000 200000");
        });
        test("3 c c x x 0: move(cc, xx).", () -> {
            CurbCars x = street("S" + "c299".repeat(12) + "l05");
            isScript(NONE, x, "300000");
            isScript(NONE, x, "311780 640001");
            isScript(0, x, "311790");
            isScript(0, x, "311800");
            isScript(0, x, "300010");
            isScript(NONE, x, "304100");
            isScript(NONE, x, "304100 608001 609001");
            isScript(0, x, "305100");
        });
        test("4 0 0 0 n n: minutes(nn).", () -> {
            CurbCars x = street("Sc260");
            isScript(NONE, x, "400001 800000");
            isScript(NONE, x, "400059 800000");
            isScript(NONE, x, "400060 800002");
            isScript(0, x, "400000");
            isScript(0, x, "400061");
            isScript(0, x, "400099");
        });
        test("5 w 0 v v 0: set(w, vv).", () -> {
            CurbCars x = only(0, 6);
            isScript(NONE, x, "500000");
            isScript(NONE, x, "500020");
            isScript(0, x, "500030");
            isScript(NONE, x, "510000 170901");
            isScript(NONE, x, "510010 170900");
            isScript(NONE, x, "510040 130901");
            isScript(NONE, x, "510040 140900");
            isScript(0, x, "510050");
            isScript(0, x, "520000");
            isScript(NONE, x, "520010");
            isScript(NONE, x, "520300");
            isScript(0, x, "520310");
            isScript(0, x, "530010");
            isScript(0, x, "500100");
        });
        test("6 x x 0 0 b: hydrant(xx, b is 1).", () -> {
            CurbCars x = street("Sc299h02+");
            isScript(0, x, "600001");
            isScript(0, x, "601001");
            isScript(NONE, x, "600000");
            isScript(NONE, x, "602001");
            isScript(NONE, x, "602000 300010");
            isScript(1, x, "602001 300010");
            isScript(NONE, x, "679001 920037");
            isScript(1, x, "679001 920038");
            isScript(NONE, x, "679000 920038");
            isScript(0, x, "680001");
            isScript(0, x, "680000");
            isScript(0, x, "699000");
        });
        test("7 l 0 0 0 r: succeeds if why(l) is r.", () -> {
            CurbCars x = only(0, 4);
            isScript(NONE, x, "740000");
            isScript(NONE, x, "750002");
            isScript(NONE, x, "760001");
            isScript(NONE, x, "720000");
            isScript(NONE, x, "780001");
            isScript(0, x, "740001");
            isScript(0, x, "750001");
            isScript(0, x, "750000");
            isScript(0, x, "760002");
            isScript(0, x, "760003");
            isScript(0, x, "710001");
            isScript(0, x, "790001");
        });
        test("8 c c 0 0 s: succeeds if the state of the car cc is s.", () -> {
            CurbCars x = only(0, 8);
            x.come(4, 9);
            x.come(8, 9);
            x.come(2, 9);
            x.leave(0);
            x.tow(2);
            x.come(2, 9);
            x.hydrant(4, true);
            int[] states = {2, 1, 4, 0};
            for (int c = 0; c <= 3; c++) {
                for (int s = 0; s <= 9; s++) {
                    isScript(s == states[c] ? NONE : 0, x, "80" + c + "00" + s);
                }
            }
            isScript(NONE, x, "400005 801003");
            isScript(0, x, "804000");
            isScript(0, x, "804001");
        });
        test("9 l 0 0 n n: succeeds if fits(l, 1) is at least nn.", () -> {
            CurbCars x = new CurbCars();
            isScript(NONE, x, "920000");
            isScript(NONE, x, "920001");
            isScript(NONE, x, "920038");
            isScript(NONE, x, "920039");
            isScript(0, x, "920040");
            isScript(0, x, "920099");
            isScript(NONE, x, "980009");
            isScript(0, x, "980010");
            isScript(NONE, full(), "920000");
            isScript(0, full(), "920001");
            isScript(0, full(), "910000");
            isScript(0, full(), "990000");
        });
        test("The commands 1 to 6 fail if the method would throw an exception;", () -> {
            CurbCars forty = withFortyGone();
            isScript(0, forty, "120101");
            isScript(0, forty, "120100");
            isScript(NONE, forty, "839002");
            CurbCars x = street("Sc299c299l01");
            isScript(0, x, "120001");
            isScript(0, x, "120000");
            isScript(0, x, "201000");
            isScript(0, x, "301200");
            isScript(0, x, "300790");
            isScript(0, x, "400000");
            isScript(0, x, "500030");
            isScript(0, x, "600001");
        });
    }

    /**
     * The state on which every group is tried: car 0 stands on 0 to 3, car 2 on 10 and 11, car 1 left, car 3 is towed,
     * hydrants stand on 19 and above. A car of 7 or 8 cannot park.
     */
    private static CurbCars forAnyGroup() {
        CurbCars x = street("Sc499c299c299c201");
        x.move(3, 30);
        x.move(2, 10);
        x.leave(1);
        x.tow(3);
        for (int cell = 19; cell < 80; cell++) {
            x.hydrant(cell, true);
        }
        return x;
    }

    private void anyGroup() {
        section("Promise 25: runScript");
        test("commands with cars, cells or lengths that do not exist fail, and so does any other group (also one with another digit "
            + "where a 0 is written, or a b above 1).", () -> {
            int lost = 0;
            int gained = 0;
            CurbCars x = forAnyGroup();
            // an object is used for at most 512 calls
            for (int group = 0; group < 1000000; group++) {
                if (group % 400 == 0) {
                    x = forAnyGroup();
                }
                boolean succeeds = x.runScript(1, group) == NONE;
                boolean due = succeedsOnIt(group);
                if (due && !succeeds) {
                    is("runScript(1, " + group + ")", NONE, 0);
                    lost++;
                } else if (!due && succeeds) {
                    is("runScript(1, " + group + ")", 0, NONE);
                    gained++;
                }
            }
            is("groups that fail and are not to", 0, lost);
            is("groups that succeed and are not to", 0, gained);
        });
        test("All are decimal numbers.", () -> {
            CurbCars x = street("S" + "c299".repeat(11));
            isScript(NONE, x, "210000 810002");
            isScript(0, x, "211000");
            isScript(NONE, x, "310780");
            isScript(NONE, x, "400010 810000");
            isScript(NONE, x, "520100");
            isScript(NONE, x, "679001");
            isScript(NONE, x, "920028");
            isScript(0, x, "920029");
            isScript(NONE, x, "121001 400009 811000");
            isScript(NONE, x, "121001 400010 811002");
        });
    }

    /** The command's sentence, said with what is so on the street of forAnyGroup: its gaps are 4 to 9 and 12 to 18. */
    private static boolean succeedsOnIt(int group) {
        String d = "0".repeat(6 - Integer.toString(group).length()) + group;
        int one = d.charAt(1) - '0';
        int two = Integer.parseInt(d.substring(1, 3));
        int middle = Integer.parseInt(d.substring(3, 5));
        int last = Integer.parseInt(d.substring(4, 6));
        boolean length = one >= 2 && one <= 8;
        switch (d.charAt(0)) {
            case '1': return length && !d.startsWith("00", 2) && d.endsWith(one <= 6 ? "01" : "00");
            case '2': return d.endsWith("000") && (two == 0 || two == 2);
            case '3': return d.endsWith("0") && (two == 0 && middle <= 6 || two == 2 && middle >= 4 && middle <= 17);
            case '4': return d.startsWith("4000") && last >= 1 && last <= 60;
            case '5': return d.charAt(2) == '0' && d.endsWith("0")
                && (one == 0 && middle <= 2 || one == 1 && middle <= 4 || one == 2 && middle >= 1 && middle <= 30);
            case '6': return two <= 79 && (d.endsWith("000") || d.endsWith("001") && two > 3 && two != 10 && two != 11);
            case '7': return length && d.endsWith(one <= 6 ? "0000" : one == 7 ? "0002" : "0001");
            case '8': return d.endsWith("000") && (two == 0 || two == 2) || d.equals("801002") || d.equals("803004");
            case '9': return length && d.startsWith("00", 2)
                && last <= (one <= 5 ? 5 / one : 0) + (one <= 6 ? 6 / one : 0);
            default: return false;
        }
    }

    // ---- simulations

    private interface Turn {
        boolean is(int r);
    }

    private static Turn coming(int length) {
        return r -> r % 8 <= 2 && r / 8 % 7 == length - 2;
    }

    private static Turn minutesOf(int n) {
        return r -> r % 8 >= 6 && r / 8 % 9 == n - 1;
    }

    /** A seed from which the first turn draws 8 * q + kind, and the others are as told. */
    private static long seed(int q, int kind, Turn... others) {
        long first = 8L * q + kind;
        for (long below = 0; below < 1L << 30; below++) {
            long x = first << 33 | below;
            int n = 0;
            while (n < others.length) {
                x = next(x);
                if (!others[n].is(drawn(x))) {
                    break;
                }
                n++;
            }
            if (n == others.length) {
                return seedFor(first, below);
            }
        }
        throw new IllegalStateException("no such seed");
    }

    private void isTurn(String name, int want, CurbCars x, int q, int kind, Turn... others) {
        is(name, want, x.simulate(seed(q, kind, others), 1 + others.length));
    }

    private void simulations() {
        section("Promise 26: simulate");
        test("Simulates m turns on a copy of the state.", () -> {
            CurbCars x = street("Sc399c499h79+r2");
            int[] before = look(x);
            for (int m = 1; m <= 60; m += 59) {
                x.simulate(m, m);
                x.simulate(-m, m);
            }
            sameLook("behind it", before, look(x));
            state("none of it is an action", x::undo);
            isTurn("it starts with the state: car 1 leaves", 10000 + 76, x, 1, 3);
            isTurn("and starts with it again", 10000 + 75, x, 0, 3, r -> r % 8 == 5);
        });
        test("A long x starts as the seed. Each turn first replaces x by x * 6364136223846793005L + 1442695040888963407L (with long "
            + "overflow), and r = (int) (x >>> 33) is computed.", () -> {
            // from 1 the first r is 908834774: minutes; the second is 1093944153, r % 8 is 1, q % 7 is 0: come(2, ..)
            CurbCars x = new CurbCars();
            is("a turn", 80, x.simulate(1L, 1));
            is("two turns", 10078, x.simulate(1L, 2));
            for (long seed : new long[] {0L, 1L, -1L, 77L, Long.MIN_VALUE, Long.MAX_VALUE, -99999999999L, 1L << 32}) {
                for (int m : new int[] {1, 2, 3, 10, 30, 60}) {
                    is("simulate(" + seed + ", " + m + ")", bySingleCalls(new CurbCars(), seed, m), new CurbCars().simulate(seed, m));
                }
            }
        });
        test("q is r / 8.", () -> {
            CurbCars x = new CurbCars();
            for (int kind = 0; kind <= 2; kind++) {
                isTurn("come(2, ..), r is " + kind, 10078, x, 0, kind);
                isTurn("come(8, ..), r is " + (48 + kind), 10072, x, 6, kind);
            }
            isTurn("hydrant(0, true), r is 1284", 0, only(0, 0), 160, 4);
            isTurn("hydrant(79, true), r is 1276", 0, only(79, 79), 159, 4);
            isTurn("the highest r of a kind, q is 268435455 and q % 9 is 6: minutes(7)", 80, x, 268435455, 7);
            isTurn("the highest q that comes, q % 7 is 1", 10077, x, 268435455, 2);
        });
    }

    /** The turns as calls of the face, on the object itself. */
    private static int bySingleCalls(CurbCars x, long seed, int m) {
        int before = x.about(4);
        long chance = seed;
        for (int i = 0; i < m; i++) {
            chance = next(chance);
            int r = drawn(chance);
            int q = r / 8;
            try {
                switch (r % 8) {
                    case 0, 1, 2 -> x.come(2 + q % 7, 1 + q / 8 % 30);
                    case 3 -> x.leave(q % 40);
                    case 4 -> x.hydrant(q % 80, q / 128 % 3 != 0);
                    case 5 -> {
                        if (q / 4 % 2 == 0) {
                            x.set(0, q % 3);
                        } else {
                            x.set(1, q / 8 % 5);
                        }
                    }
                    default -> x.minutes(1 + q % 9);
                }
            } catch (IllegalStateException | IndexOutOfBoundsException e) {
                continue;
            }
        }
        return 10000 * x.about(1) + 100 * (x.about(4) - before) + x.about(9);
    }

    private void turns() {
        section("Promise 26: simulate");
        test("By r % 8: 0 to 2: come(2 + q % 7, 1 + q / 8 % 30).", () -> {
            CurbCars x = new CurbCars();
            for (int kind = 0; kind <= 2; kind++) {
                for (int q = 0; q <= 14; q++) {
                    isTurn("q is " + q, 10000 + 78 - q % 7, x, q, kind);
                }
                isTurn("a stay of 1", 80, x, 0, kind, minutesOf(1));
                isTurn("a stay of 1, q is 7", 80, x, 7, kind, minutesOf(1));
                isTurn("a stay of 2, q is 8", 10077, x, 8, kind, minutesOf(1));
                isTurn("a stay of 2, left", 80, x, 8, kind, minutesOf(2));
                isTurn("a stay of 9", 10077, x, 64, kind, minutesOf(8));
                isTurn("a stay of 9, left", 80, x, 64, kind, minutesOf(9));
            }
            isTurn("a stay of 30, behind 29", 10077, x, 8 * 29, 0, minutesOf(9), minutesOf(9), minutesOf(9), minutesOf(2));
            isTurn("a stay of 30, left", 80, x, 8 * 29, 0, minutesOf(9), minutesOf(9), minutesOf(9), minutesOf(3));
            isTurn("the stay behind 30 is 1 again", 80, x, 8 * 30, 0, minutesOf(1));
            isTurn("and then 2", 10078 - 8 * 31 % 7, x, 8 * 31, 0, minutesOf(1));
        });
        test("3: leave(q % 40).", () -> {
            CurbCars x = new CurbCars();
            x.come(5, 99);
            for (int c = 1; c < 39; c++) {
                x.come(8, 99);
                x.leave(c);
            }
            x.come(3, 99);
            isTurn("car 0", 10000 + 77, x, 0, 3);
            isTurn("car 39", 10000 + 75, x, 39, 3);
            isTurn("car 0 by 40", 10000 + 77, x, 40, 3);
            isTurn("car 39 by 79", 10000 + 75, x, 79, 3);
            isTurn("car 38, which left", 20000 + 72, x, 38, 3);
            isTurn("car 1, which left, by 41", 20000 + 72, x, 41, 3);
        });
        test("4: hydrant(q % 80, q / 128 % 3 is not 0).", () -> {
            isTurn("0, without", 1, full(), 0, 4);
            isTurn("79, without", 1, full(), 79, 4);
            isTurn("0, without, by 80", 1, full(), 80, 4);
            isTurn("47, without, by 127", 1, full(), 127, 4);
            isTurn("48, with, by 128", 0, only(48, 48), 128, 4);
            isTurn("48, with, 47 staying free", 1, only(47, 47), 128, 4);
            isTurn("63, with, by 383", 0, only(63, 63), 383, 4);
            isTurn("64, without, by 384", 1, full(), 384, 4);
            isTurn("79, with, by 159", 0, only(79, 79), 159, 4);
            isTurn("79, with, 78 staying free", 1, only(78, 78), 159, 4);
            isTurn("0, with, by 160", 0, only(0, 0), 160, 4);
            isTurn("0, with, 1 staying free", 1, only(1, 1), 160, 4);
        });
        test("5: set(0, q % 3), if q / 4 % 2 is 0, otherwise set(1, q / 8 % 5).", () -> {
            for (int first = 0; first <= 2; first++) {
                CurbCars x = only(0, 8);
                x.set(0, first);
                // by rule 0 or 1 two cars of 4 find room; by rule 2 the first one, at 908834774 modulo 6, leaves none
                isTurn("set(0, 0)", 20001, x, 0, 5, coming(4), coming(4));
                isTurn("set(0, 1)", 20001, x, 1, 5, coming(4), coming(4));
                isTurn("set(0, 2)", 10005, x, 2, 5, coming(4), coming(4));
                isTurn("set(0, 0), q is 3", 20001, x, 3, 5, coming(4), coming(4));
                isTurn("set(0, 2), q is 8", 10005, x, 8, 5, coming(4), coming(4));
                isTurn("set(0, 2), q is 11", 10005, x, 11, 5, coming(4), coming(4));
                // a car of 4 takes the lowest gap by rule 0, the gap of 5 by rule 1
                CurbCars y = only(20, 24);
                for (int cell = 0; cell < 9; cell++) {
                    y.hydrant(cell, false);
                }
                y.set(0, first);
                isTurn("set(0, 0) again", 10010, y, 0, 5, coming(4), coming(8));
                isTurn("set(0, 1) again", 20002, y, 1, 5, coming(4), coming(8));
                isTurn("set(0, 1), q is 10", 20002, y, 10, 5, coming(4), coming(8));
            }
            for (int room = 0; room <= 4; room++) {
                CurbCars x = only(30, 35);
                x.set(1, (room + 2) % 5);
                for (int q : new int[] {8 * room + 4, 8 * room + 7, 8 * room + 40 + 4}) {
                    isTurn("set(1, " + room + "), it parks", 10000 + room, x, q, 5, coming(6 - room));
                    isTurn("set(1, " + room + "), it does not", 6, x, q, 5, coming(7 - room));
                }
            }
        });
        test("Otherwise: minutes(1 + q % 9).", () -> {
            CurbCars x = street("Sc201c302c409c510c699");
            for (int kind = 6; kind <= 7; kind++) {
                isTurn("one", 40000 + 62, x, 0, kind);
                isTurn("two", 30000 + 65, x, 1, kind);
                isTurn("eight", 30000 + 65, x, 7, kind);
                isTurn("nine", 20000 + 69, x, 8, kind);
                isTurn("one, by 9", 40000 + 62, x, 9, kind);
                isTurn("nine, and one", 10000 + 74, x, 8, kind, minutesOf(1));
            }
        });
    }

    private void answersOfSimulate() {
        section("Promise 26: simulate");
        test("What would throw an exception is left out.", () -> {
            CurbCars x = street("Sc299c299l01");
            isTurn("leave(2): there is no such car", 10078, x, 2, 3);
            isTurn("leave(39): there is no such car", 10078, x, 39, 3);
            isTurn("leave(1): it left", 10078, x, 1, 3);
            isTurn("hydrant(0, true): a car stands there", 10078, x, 160, 4);
            isTurn("the turn behind it is done", 20076, x, 160, 4, coming(2));
            CurbCars forty = withFortyGone();
            isTurn("come(2, 1) when 40 came", 80, forty, 0, 0);
            isTurn("and then a hydrant", 79, forty, 0, 0, r -> r % 8 == 4 && r / 8 / 128 % 3 != 0);
        });
        test("`seed`: any long", () -> {
            for (long seed : new long[] {0L, -1L, Long.MIN_VALUE, Long.MAX_VALUE}) {
                is("simulate(" + seed + ", 60)", bySingleCalls(street("Sc399c499"), seed, 60), street("Sc399c499").simulate(seed, 60));
            }
        });
        test("`m`: number of turns, 1 to 60", () -> {
            for (int m = 1; m <= 60; m++) {
                is("simulate(5, " + m + ")", bySingleCalls(new CurbCars(), 5L, m), new CurbCars().simulate(5L, m));
            }
            CurbCars x = new CurbCars();
            argument("0", () -> x.simulate(5L, 0));
            argument("61", () -> x.simulate(5L, 61));
        });
        test("Returns 10000 * (the cars parked at the end) + 100 * (the cars that gave up in the turns) + (the free cells at the "
            + "end).", () -> {
            isTurn("nothing parked, nothing free", 0, full(), 0, 6);
            isTurn("all free", 80, new CurbCars(), 0, 6);
            isTurn("one that came in the turn is parked at the end", 10072, new CurbCars(), 6, 0);
            isTurn("one that left in the turn is not", 80, street("Sc899"), 0, 3);
            isTurn("a hydrant that was put in the turn", 79, new CurbCars(), 128, 4);
            CurbCars x = only(0, 4);
            x.come(8, 9);
            x.minutes(5);
            x.come(8, 9);
            x.come(8, 9);
            x.come(4, 99);
            isTurn("who goes round gave up not yet", 10001, x, 3, 6);
            isTurn("two give up; the one that gave up before does not count", 10201, x, 4, 6);
            CurbCars forty = new CurbCars();
            forty.set(1, 0);
            for (int c = 0; c < 40; c++) {
                forty.come(2, 99);
            }
            isTurn("forty parked", 400000, forty, 0, 6);
            CurbCars round = full();
            round.set(2, 1);
            for (int c = 0; c < 40; c++) {
                round.come(2, 99);
            }
            isTurn("forty give up", 4000, round, 0, 6);
        });
        test("Throws `IllegalArgumentException` if m is out of range", () -> {
            CurbCars x = new CurbCars();
            argumentOutside("simulate(1, ..)", 1, 60, m -> x.simulate(1L, m));
            argumentOutside("simulate(-1, ..)", 1, 60, m -> x.simulate(-1L, m));
        });
    }

    // ---- save slots

    private void save() {
        section("Promise 27: save");
        test("Stores the present state in a save slot.", () -> {
            CurbCars x = street("Sh79+r2c399c301p01");
            x.set(1, 3);
            x.set(2, 30);
            x.come(8, 50);
            int[] saved = look(x);
            x.save(0);
            x.minutes(60);
            x.hydrant(79, false);
            x.hydrant(0, x.at(0) == NONE);
            x.set(0, 0);
            x.set(1, 0);
            x.set(2, 1);
            x.come(2, 9);
            x.restore(0);
            sameLook("restored", saved, look(x));
            x.minutes(1);
            x.save(0);
            x.minutes(1);
            is("the later one is stored in place of the first", 2, x.restore(0));
        });
        test("Stores the present state in a save slot.", this::twoStates);
        test("`slot`: 0 or 1", () -> {
            CurbCars x = new CurbCars();
            x.minutes(1);
            x.save(0);
            x.minutes(1);
            x.save(1);
            x.minutes(1);
            is("slot 0", 1, x.restore(0));
            is("slot 1", 2, x.restore(1));
        });
        test("Returns the minutes.", () -> {
            CurbCars x = new CurbCars();
            is("none", 0, x.save(0));
            x.minutes(60);
            is("sixty", 60, x.save(0));
            x.minutes(60);
            is("more", 120, x.save(1));
            x.undo();
            is("taken back", 60, x.save(1));
        });
        test("Throws `IndexOutOfBoundsException` if there is no such save slot", () ->
            rangeOutside("save", 0, 1, new CurbCars()::save));
    }

    /** Two states in which the same cars are others, and all else is different too: each comes back whole. */
    private void twoStates() {
        CurbCars x = new CurbCars();
        x.save(1);
        x.set(0, 2);
        x.set(1, 3);
        x.set(2, 30);
        x.come(3, 99);
        x.come(2, 50);
        x.minutes(2);
        hydrants(x, 79, x.gap(0, 0));
        int[] one = look(x);
        x.save(0);
        x.restore(1);
        x.set(0, 1);
        x.set(1, 0);
        x.set(2, 2);
        // of the gaps 4 to 11 alone has eight cells: car 0 takes it, car 1 gives up
        hydrants(x, 3, 12, 19, 26, 33, 40, 47, 54, 61, 68, 75);
        x.come(8, 98);
        x.come(8, 60);
        x.minutes(60);
        int[] other = look(x);
        x.save(1);
        x.restore(0);
        sameLook("the state in slot 0", one, look(x));
        x.restore(1);
        sameLook("the state in slot 1", other, look(x));
        x.set(0, 2);
        is("its long of chance, which no car has used", placeOfFirst(other), x.place(2));
    }

    /** The place of a car of 2 by rule 2 with the first long of chance, without room to turn in, on a street as it was seen. */
    private static int placeOfFirst(int[] seen) {
        int[] places = new int[80];
        int count = 0;
        for (int cell = 0; cell < 79; cell++) {
            if (seen[CELLS_SEEN + cell] == NONE && seen[CELLS_SEEN + cell + 1] == NONE) {
                places[count++] = cell;
            }
        }
        return places[908834774 % count];
    }

    private void restore() {
        section("Promise 28: restore");
        test("Replaces the state by the one in a save slot, and forgets all remembered states.", () -> {
            CurbCars x = street("Sr2c399");
            int[] saved = look(x);
            x.save(1);
            for (int n = 1; n <= 20; n++) {
                x.minutes(n);
            }
            x.restore(1);
            sameLook("restored", saved, look(x));
            state("undo()", x::undo);
            x.minutes(1);
            is("what is done then is remembered", 0, x.undo());
            sameLook("taken back", saved, look(x));
        });
        test("Replaces the state by the one in a save slot, and forgets all remembered states.", this::twoStates);
        test("The save slot keeps it.", () -> {
            CurbCars x = street("Sr2c399");
            x.save(0);
            int[] saved = look(x);
            for (int n = 0; n < 2; n++) {
                x.restore(0);
                x.leave(0);
                x.hydrant(40, true);
                x.minutes(9);
                is("again", 0, x.restore(0));
            }
            sameLook("restored again", saved, look(x));
            x.minutes(1);
            x.undo();
            is("and once more", 0, x.restore(0));
        });
        test("`slot`: 0 or 1", () -> {
            CurbCars x = new CurbCars();
            x.minutes(3);
            x.save(0);
            state("slot 1 has nothing", () -> x.restore(1));
            x.minutes(1);
            is("slot 0 has the street", 3, x.restore(0));
            CurbCars y = new CurbCars();
            y.minutes(4);
            y.save(1);
            y.minutes(1);
            state("slot 0 has nothing", () -> y.restore(0));
            is("slot 1 has the street", 4, y.restore(1));
            y.save(0);
            y.minutes(1);
            y.save(1);
            is("both have one: slot 0", 4, y.restore(0));
            is("both have one: slot 1", 5, y.restore(1));
        });
        test("Returns the minutes then.", () -> {
            CurbCars x = new CurbCars();
            x.save(0);
            x.minutes(60);
            x.save(1);
            x.minutes(60);
            is("none", 0, x.restore(0));
            is("sixty", 60, x.restore(1));
            is("they are the street's", 60, x.about(6));
        });
        test("Throws `IndexOutOfBoundsException` if there is no such save slot", () -> {
            CurbCars x = new CurbCars();
            rangeOutside("restore, nothing having been saved", 0, 1, x::restore);
            x.save(0);
            x.save(1);
            rangeOutside("restore", 0, 1, x::restore);
        });
        test("Throws `IllegalStateException` if nothing has been saved in it since the last load", () -> {
            CurbCars x = written("S");
            state("never, slot 0", () -> x.restore(0));
            state("never, slot 1", () -> x.restore(1));
            x.save(0);
            x.save(1);
            x.load();
            state("before the load, slot 0", () -> x.restore(0));
            state("before the load, slot 1", () -> x.restore(1));
            x.save(1);
            state("in the other slot since", () -> x.restore(0));
            is("in this slot since", 0, x.restore(1));
            x.append('x');
            state("a load that throws", x::load);
            is("is no load", 0, x.restore(1));
        });
    }
}
