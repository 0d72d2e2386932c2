import java.util.Random;

/** Runs of calls by chance, of the same seeds each time, on the program and on the model: the answers have to be the same. */
public final class ModelTest {

    private static final Check check = new Check();
    private static final int RUNS = 500;
    private static final int CALLS = 512;
    private static final String LETTERS = "Shcltmrp0123456789+-x";

    private final Random random;
    private final CurbCars program = new CurbCars();
    private final Model model = new Model();
    private final StringBuilder trace = new StringBuilder();
    /** How tight the street is: runs with many hydrants, with long stays, with much patience differ. */
    private final int style;

    private ModelTest(int run) {
        random = new Random(run);
        style = run % 6;
    }

    public static void main(String[] args) {
        for (int run = 0; run < RUNS; run++) {
            if (!new ModelTest(run).sameAnswers(run)) {
                break;
            }
        }
        check.finish("ModelTest");
    }

    private boolean sameAnswers(int run) {
        for (int i = 0; i < CALLS; i++) {
            String got;
            String want;
            int call = nextCall(i);
            int a = number(call);
            int b = secondNumber(call);
            long l = longNumber(call, a);
            got = answer(call, a, b, l, true);
            want = answer(call, a, b, l, false);
            trace.append(NAMES[call]).append('(').append(a).append(", ").append(b).append(", ").append(l).append(") -> ")
                .append(got).append('\n');
            check.due("", 1, () -> 1);
            if (!got.equals(want)) {
                System.out.println(trace);
                check.report("run " + run + ": due is " + want);
                return false;
            }
        }
        return true;
    }

    private static final String[] NAMES = {"append", "clearText", "errorPosition", "load", "about", "carOf", "at", "gap", "setting",
        "hydrant", "come", "leave", "tow", "move", "minutes", "set", "undo", "why", "place", "fits", "gapIn", "mover", "jam",
        "runScript", "simulate", "save", "restore"};

    private static final int[] WEIGHTS = {20, 1, 2, 2, 20, 20, 15, 10, 2, 16, 24, 6, 4, 16, 12, 6, 8, 8, 8, 8, 8, 12, 4, 16, 4, 3, 3};

    private int nextCall(int i) {
        if (style == 1 && i < 90) {
            return i < 40 ? 9 : 10;
        }
        int sum = 0;
        for (int w : WEIGHTS) {
            sum += w;
        }
        int r = random.nextInt(sum);
        int call = 0;
        while (r >= WEIGHTS[call]) {
            r -= WEIGHTS[call];
            call++;
        }
        return call;
    }

    private int anyOf(int low, int high) {
        int r = random.nextInt(40);
        if (r == 0) {
            return low - 1;
        }
        if (r == 1) {
            return high + 1;
        }
        if (r == 2 && random.nextInt(8) == 0) {
            return random.nextBoolean() ? Integer.MIN_VALUE : Integer.MAX_VALUE;
        }
        return low + random.nextInt(high - low + 1);
    }

    /** The model is asked, for the program is used for at most 512 calls. */
    private int aCar() {
        int came = model.about(0);
        return came == 0 || random.nextInt(12) == 0 ? anyOf(0, 39) : random.nextInt(came);
    }

    private int number(int call) {
        switch (NAMES[call]) {
            case "append":
                return random.nextInt(60) == 0 ? anyOf(0, 255) : fittingLetter();
            case "about":
                return anyOf(0, 11);
            case "carOf":
            case "leave":
            case "tow":
            case "move":
                return aCar();
            case "at":
            case "hydrant":
                return anyOf(0, 79);
            case "gap":
                return anyOf(0, Math.max(0, model.about(7)));
            case "setting":
            case "set":
                return anyOf(0, 2);
            case "minutes":
                return random.nextInt(4) == 0 ? anyOf(1, 60) : anyOf(1, 5);
            case "runScript":
                return anyOf(1, 3);
            case "save":
            case "restore":
                return anyOf(0, 1);
            case "simulate":
                return anyOf(1, 60);
            default:
                return anyOf(2, 8);
        }
    }

    /** Mostly a letter that the rules allow at the end of the text. */
    private int fittingLetter() {
        if (random.nextInt(25) == 0) {
            return LETTERS.charAt(random.nextInt(LETTERS.length()));
        }
        for (int i = 0; i < 30; i++) {
            char letter = LETTERS.charAt(random.nextInt(LETTERS.length()));
            if (wouldFit(letter)) {
                return letter;
            }
        }
        return 'S';
    }

    private final StringBuilder text = new StringBuilder();

    private boolean wouldFit(char letter) {
        Model m = new Model();
        for (int i = 0; i < text.length(); i++) {
            m.append(text.charAt(i));
        }
        if (text.length() == 120) {
            return true;
        }
        m.append(letter);
        int error = m.errorPosition();
        return error == CurbCars.NONE || error > text.length();
    }

    private int secondNumber(int call) {
        switch (NAMES[call]) {
            case "carOf":
                return anyOf(0, 6);
            case "hydrant":
                return random.nextInt(style == 1 || style == 2 ? 4 : 2);
            case "come":
                return style == 3 ? anyOf(60, 99) : anyOf(1, style == 4 ? 5 : 99);
            case "move":
                return anyOf(0, 79);
            case "set":
                return random.nextInt(3) == 0 ? anyOf(1, 30) : anyOf(0, 4);
            default:
                return anyOf(0, 1);
        }
    }

    private long longNumber(int call, int n) {
        if (!"runScript".equals(NAMES[call])) {
            return random.nextInt(5) == 0 ? random.nextInt(10) - 5 : random.nextLong();
        }
        if (random.nextInt(30) == 0) {
            return random.nextLong();
        }
        long script = 0;
        for (int i = 0; i < 3 && i < n; i++) {
            script = script * 1000000L + group();
        }
        return random.nextInt(40) == 0 ? script * 10 : script;
    }

    private int group() {
        int one = random.nextInt(12) == 0 ? random.nextInt(10) : 2 + random.nextInt(7);
        int car = Math.min(99, Math.max(0, aCar()));
        int cell = random.nextInt(82);
        int group = switch (1 + random.nextInt(9)) {
            case 1 -> 100000 + one * 10000 + random.nextInt(100) * 100 + (random.nextInt(4) == 0 ? 0 : 1);
            case 2 -> 200000 + car * 1000;
            case 3 -> 300000 + car * 1000 + cell * 10;
            case 4 -> 400000 + random.nextInt(65);
            case 5 -> 500000 + random.nextInt(4) * 10000 + random.nextInt(6) * 10;
            case 6 -> 600000 + cell * 1000 + random.nextInt(2);
            case 7 -> 700000 + one * 10000 + random.nextInt(3);
            case 8 -> 800000 + car * 1000 + random.nextInt(5);
            default -> 900000 + one * 10000 + random.nextInt(30);
        };
        if (random.nextInt(12) == 0) {
            int[] places = {1, 10, 100, 1000, 10000};
            group += places[random.nextInt(5)];
        }
        return Math.min(999999, group);
    }

    private String answer(int call, int a, int b, long l, boolean ofProgram) {
        try {
            return "" + (ofProgram ? ofProgram(call, a, b, l) : ofModel(call, a, b, l));
        } catch (RuntimeException e) {
            return "throws." + e.getClass().getSimpleName();
        }
    }

    private int ofProgram(int call, int a, int b, long l) {
        CurbCars x = program;
        return switch (NAMES[call]) {
            case "append" -> {
                int n = x.append(a);
                text.append((char) a);
                yield n;
            }
            case "clearText" -> {
                text.setLength(0);
                yield x.clearText();
            }
            case "errorPosition" -> x.errorPosition();
            case "load" -> x.load();
            case "about" -> x.about(a);
            case "carOf" -> x.carOf(a, b);
            case "at" -> x.at(a);
            case "gap" -> x.gap(a, b);
            case "setting" -> x.setting(a);
            case "hydrant" -> x.hydrant(a, b > 0);
            case "come" -> x.come(a, b);
            case "leave" -> x.leave(a);
            case "tow" -> x.tow(a);
            case "move" -> x.move(a, b);
            case "minutes" -> x.minutes(a);
            case "set" -> x.set(a, b);
            case "undo" -> x.undo();
            case "why" -> x.why(a);
            case "place" -> x.place(a);
            case "fits" -> x.fits(a, b);
            case "gapIn" -> x.gapIn(a);
            case "mover" -> x.mover(a, b);
            case "jam" -> x.jam(a, l);
            case "runScript" -> x.runScript(a, l);
            case "simulate" -> x.simulate(l, a);
            case "save" -> x.save(a);
            default -> x.restore(a);
        };
    }

    private int ofModel(int call, int a, int b, long l) {
        Model x = model;
        return switch (NAMES[call]) {
            case "append" -> x.append(a);
            case "clearText" -> x.clearText();
            case "errorPosition" -> x.errorPosition();
            case "load" -> x.load();
            case "about" -> x.about(a);
            case "carOf" -> x.carOf(a, b);
            case "at" -> x.at(a);
            case "gap" -> x.gap(a, b);
            case "setting" -> x.setting(a);
            case "hydrant" -> x.hydrant(a, b > 0);
            case "come" -> x.come(a, b);
            case "leave" -> x.leave(a);
            case "tow" -> x.tow(a);
            case "move" -> x.move(a, b);
            case "minutes" -> x.minutes(a);
            case "set" -> x.set(a, b);
            case "undo" -> x.undo();
            case "why" -> x.why(a);
            case "place" -> x.place(a);
            case "fits" -> x.fits(a, b);
            case "gapIn" -> x.gapIn(a);
            case "mover" -> x.mover(a, b);
            case "jam" -> x.jam(a, l);
            case "runScript" -> x.runScript(a, l);
            case "simulate" -> x.simulate(l, a);
            case "save" -> x.save(a);
            default -> x.restore(a);
        };
    }
}
