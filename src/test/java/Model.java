import java.math.BigInteger;
import java.util.ArrayDeque;
import java.util.ArrayList;
import java.util.Deque;
import java.util.List;
import java.util.regex.Pattern;

/** The document once more, written plainly with the Java library and apart from the program, to be compared with it. */
final class Model {

    private static final class Car {
        int length;
        int stay;
        int state = 1;
        int place = -1;
        int parked;
        int round;

        Car copy() {
            Car c = new Car();
            c.length = length;
            c.stay = stay;
            c.state = state;
            c.place = place;
            c.parked = parked;
            c.round = round;
            return c;
        }

        boolean coversIfAt(int place, int x) {
            return x >= place && x < place + length;
        }
    }

    private static final class State {
        List<Car> cars = new ArrayList<>();
        boolean[] hydrants = new boolean[80];
        int minutes;
        int[] settings = {0, 1, 5};
        BigInteger chance = BigInteger.ONE;

        State copy() {
            State s = new State();
            for (Car c : cars) {
                s.cars.add(c.copy());
            }
            s.hydrants = hydrants.clone();
            s.minutes = minutes;
            s.settings = settings.clone();
            s.chance = chance;
            return s;
        }
    }

    private static final BigInteger TWO64 = BigInteger.ONE.shiftLeft(64);
    private static final BigInteger FACTOR = new BigInteger("6364136223846793005");
    private static final BigInteger ADDEND = new BigInteger("1442695040888963407");

    private State s = new State();
    private final Deque<State> remembered = new ArrayDeque<>();
    private final State[] slots = new State[2];
    private final StringBuilder text = new StringBuilder();

    private static IllegalArgumentException argument() {
        return new IllegalArgumentException();
    }

    private static IllegalStateException state() {
        return new IllegalStateException();
    }

    private static IndexOutOfBoundsException index() {
        return new IndexOutOfBoundsException();
    }

    // ---- text

    int append(int c) {
        if (c < 0 || c > 255) {
            throw argument();
        }
        if (text.length() == 120) {
            throw state();
        }
        text.append((char) c);
        return text.length();
    }

    int clearText() {
        int n = text.length();
        text.setLength(0);
        return n;
    }

    private static final String CELL = "[0-7][0-9]";
    private static final String CAR = "[0-3][0-9]";
    private static final Pattern COMMAND = Pattern.compile("h" + CELL + "[+-]|c[2-8](?:0[1-9]|[1-9][0-9])|[lt]" + CAR
        + "|m" + CAR + CELL + "|r[0-2]|p(?:0[1-9]|[1-5][0-9]|60)");
    private static final Pattern STREET = Pattern.compile("S(?:" + COMMAND.pattern() + ")*");

    int errorPosition() {
        var m = STREET.matcher(text);
        if (m.matches()) {
            return -1;
        }
        // the longest beginning that some text could still make a street of
        for (int n = text.length(); n > 0; n--) {
            var begin = STREET.matcher(text.substring(0, n));
            if (begin.matches() || begin.hitEnd()) {
                return n;
            }
        }
        return 0;
    }

    int load() {
        if (errorPosition() != -1) {
            throw state();
        }
        s = new State();
        int out = 0;
        var m = COMMAND.matcher(text.substring(1));
        while (m.find()) {
            try {
                String c = m.group();
                switch (c.charAt(0)) {
                    case 'h' -> hydrant(number(c, 1, 3), c.endsWith("+"));
                    case 'c' -> come(number(c, 1, 2), number(c, 2, 4));
                    case 'l' -> leave(number(c, 1, 3));
                    case 't' -> tow(number(c, 1, 3));
                    case 'm' -> move(number(c, 1, 3), number(c, 3, 5));
                    case 'r' -> set(0, number(c, 1, 2));
                    default -> minutes(number(c, 1, 3));
                }
            } catch (RuntimeException e) {
                out++;
            }
        }
        remembered.clear();
        slots[0] = null;
        slots[1] = null;
        return out;
    }

    private static int number(String c, int from, int to) {
        return Integer.parseInt(c.substring(from, to));
    }

    // ---- what there is

    private int whatIsAt(int x) {
        if (s.hydrants[x]) {
            return 100;
        }
        for (int c = 0; c < s.cars.size(); c++) {
            Car car = s.cars.get(c);
            if (car.state == 0 && car.coversIfAt(car.place, x)) {
                return c;
            }
        }
        return -1;
    }

    private List<int[]> gaps() {
        List<int[]> gaps = new ArrayList<>();
        boolean before = false;
        for (int x = 0; x < 80; x++) {
            boolean free = whatIsAt(x) == -1;
            if (free && !before) {
                gaps.add(new int[] {x, 0});
            }
            if (free) {
                gaps.get(gaps.size() - 1)[1]++;
            }
            before = free;
        }
        return gaps;
    }

    private int count(int state) {
        return (int) s.cars.stream().filter(c -> c.state == state).count();
    }

    int about(int what) {
        return switch (what) {
            case 0 -> s.cars.size();
            case 1, 2, 3, 4, 5 -> count(what - 1);
            case 6 -> s.minutes;
            case 7 -> gaps().size();
            case 8 -> gaps().stream().mapToInt(g -> g[1]).max().orElse(0);
            case 9 -> gaps().stream().mapToInt(g -> g[1]).sum();
            case 10 -> hydrants();
            case 11 -> s.cars.stream().mapToInt(c -> c.parked).sum();
            default -> throw argument();
        };
    }

    private int hydrants() {
        int n = 0;
        for (boolean h : s.hydrants) {
            n += h ? 1 : 0;
        }
        return n;
    }

    private Car car(int c) {
        if (c < 0 || c >= s.cars.size()) {
            throw index();
        }
        return s.cars.get(c);
    }

    int carOf(int c, int what) {
        Car car = car(c);
        return switch (what) {
            case 0 -> car.length;
            case 1 -> car.stay;
            case 2 -> car.state;
            case 3 -> car.state == 0 ? car.place : -1;
            case 4 -> car.parked;
            case 5 -> car.round;
            case 6 -> car.state == 0 ? car.stay - car.parked : -1;
            default -> throw argument();
        };
    }

    int at(int x) {
        cell(x);
        return whatIsAt(x);
    }

    private static void cell(int x) {
        if (x < 0 || x > 79) {
            throw index();
        }
    }

    int gap(int k, int what) {
        List<int[]> gaps = gaps();
        if (k < 0 || k >= gaps.size()) {
            throw index();
        }
        if (what < 0 || what > 1) {
            throw argument();
        }
        return gaps.get(k)[what];
    }

    int setting(int what) {
        if (what < 0 || what > 2) {
            throw argument();
        }
        return s.settings[what];
    }

    // ---- actions

    private void remember() {
        remembered.addLast(s.copy());
        if (remembered.size() > 14) {
            remembered.removeFirst();
        }
    }

    int hydrant(int x, boolean on) {
        cell(x);
        if (on && whatIsAt(x) >= 0 && whatIsAt(x) < 100) {
            throw state();
        }
        remember();
        s.hydrants[x] = on;
        return hydrants();
    }

    int come(int length, int stay) {
        length(length);
        if (stay < 1 || stay > 99) {
            throw argument();
        }
        if (s.cars.size() == 40) {
            throw state();
        }
        remember();
        Car car = new Car();
        car.length = length;
        car.stay = stay;
        s.cars.add(car);
        park(car);
        return s.cars.size() - 1;
    }

    private static void length(int length) {
        if (length < 2 || length > 8) {
            throw argument();
        }
    }

    private static BigInteger next(BigInteger chance) {
        return chance.multiply(FACTOR).add(ADDEND).mod(TWO64);
    }

    private static int drawn(BigInteger chance) {
        return chance.shiftRight(33).intValueExact();
    }

    private boolean park(Car car) {
        int x = place(car.length);
        if (x == -1) {
            return false;
        }
        if (s.settings[0] == 2) {
            s.chance = next(s.chance);
        }
        car.place = x;
        car.state = 0;
        return true;
    }

    private Car parkedCar(int c) {
        Car car = car(c);
        if (car.state != 0) {
            throw state();
        }
        return car;
    }

    int leave(int c) {
        parkedCar(c);
        remember();
        car(c).state = 2;
        return car(c).place;
    }

    int tow(int c) {
        parkedCar(c);
        remember();
        car(c).state = 4;
        return car(c).stay - car(c).parked;
    }

    int move(int c, int x) {
        car(c);
        cell(x);
        Car car = parkedCar(c);
        if (!couldMove(c, x)) {
            throw state();
        }
        int moved = Math.abs(car.place - x);
        remember();
        car(c).place = x;
        return moved;
    }

    private boolean couldMove(int c, int x) {
        Car car = car(c);
        int step = x < car.place ? -1 : 1;
        for (int p = car.place; ; p += step) {
            for (int y = p; y < p + car.length; y++) {
                if (y < 0 || y > 79 || whatIsAt(y) != -1 && whatIsAt(y) != c) {
                    return false;
                }
            }
            if (p == x) {
                return true;
            }
        }
    }

    int minutes(int n) {
        if (n < 1 || n > 60) {
            throw argument();
        }
        remember();
        int parked = 0;
        for (int i = 0; i < n; i++) {
            parked += minute();
        }
        return parked;
    }

    private int minute() {
        s.minutes++;
        for (Car car : s.cars) {
            if (car.state == 0 && ++car.parked == car.stay) {
                car.state = 2;
            }
        }
        int parked = 0;
        for (Car car : s.cars) {
            if (car.state != 1) {
                continue;
            }
            if (park(car)) {
                parked++;
            } else if (++car.round >= s.settings[2]) {
                car.state = 3;
            }
        }
        return parked;
    }

    int set(int what, int v) {
        int[] low = {0, 0, 1};
        int[] high = {2, 4, 30};
        if (what < 0 || what > 2 || v < low[what] || v > high[what]) {
            throw argument();
        }
        remember();
        int before = s.settings[what];
        s.settings[what] = v;
        return before;
    }

    int undo() {
        if (remembered.isEmpty()) {
            throw state();
        }
        s = remembered.removeLast();
        return remembered.size();
    }

    // ---- what would be

    private boolean suffices(int[] gap, int length) {
        return gap[1] >= length + s.settings[1];
    }

    private boolean anySuffices(int length) {
        return gaps().stream().anyMatch(g -> suffices(g, length));
    }

    int why(int length) {
        length(length);
        if (gaps().stream().noneMatch(g -> g[1] >= length)) {
            return 1;
        }
        return anySuffices(length) ? 0 : 2;
    }

    int place(int length) {
        length(length);
        return placeByRule(length, s.settings[0], s.chance);
    }

    private int placeByRule(int length, int rule, BigInteger chance) {
        List<int[]> enough = gaps().stream().filter(g -> suffices(g, length)).toList();
        if (enough.isEmpty()) {
            return -1;
        }
        if (rule == 0) {
            return enough.get(0)[0];
        }
        if (rule == 1) {
            int shortest = enough.stream().mapToInt(g -> g[1]).min().getAsInt();
            return enough.stream().filter(g -> g[1] == shortest).findFirst().get()[0];
        }
        List<Integer> places = new ArrayList<>();
        for (int[] g : enough) {
            for (int x = g[0]; x + length <= g[0] + g[1]; x++) {
                places.add(x);
            }
        }
        return places.get(drawn(next(chance)) % places.size());
    }

    private interface Trial {
        int answer();
    }

    private int onCopy(Trial trial) {
        State kept = s;
        List<State> keptRemembered = new ArrayList<>(remembered);
        s = s.copy();
        try {
            return trial.answer();
        } finally {
            s = kept;
            remembered.clear();
            remembered.addAll(keptRemembered);
        }
    }

    private int fill(int length, int rule, BigInteger seed) {
        return onCopy(() -> {
            BigInteger chance = seed;
            int n = 0;
            for (int x = placeByRule(length, rule, chance); x != -1; x = placeByRule(length, rule, chance)) {
                chance = next(chance);
                Car car = new Car();
                car.length = length;
                car.place = x;
                car.state = 0;
                s.cars.add(car);
                n++;
            }
            return n;
        });
    }

    int fits(int length, int way) {
        length(length);
        if (way < 0 || way > 1) {
            throw argument();
        }
        return fill(length, 0, BigInteger.ZERO);
    }

    int gapIn(int length) {
        length(length);
        return onCopy(() -> {
            for (int n = 0; n <= 100; n++) {
                if (anySuffices(length)) {
                    return n;
                }
                minute();
            }
            return -1;
        });
    }

    int mover(int length, int what) {
        length(length);
        if (what < 0 || what > 1) {
            throw argument();
        }
        if (anySuffices(length)) {
            return -1;
        }
        for (int c = 0; c < s.cars.size(); c++) {
            int x = car(c).state == 0 ? nearestThatHelps(c, length) : -1;
            if (x != -1) {
                return what == 0 ? c : x;
            }
        }
        return -1;
    }

    private int nearestThatHelps(int c, int length) {
        Car car = car(c);
        int from = car.place;
        int best = -1;
        for (int x = 0; x < 80; x++) {
            if (couldMove(c, x) && (best == -1 || Math.abs(x - from) < Math.abs(best - from))) {
                car.place = x;
                if (anySuffices(length)) {
                    best = x;
                }
                car.place = from;
            }
        }
        return best;
    }

    int jam(int length, long seed) {
        length(length);
        return fill(length, 2, BigInteger.valueOf(seed).mod(TWO64));
    }

    // ---- scripts, simulations

    int runScript(int n, long script) {
        if (n < 1 || n > 3 || script < 0 || Long.toString(script).length() > 6 * n) {
            throw argument();
        }
        String digits = "0".repeat(6 * n - Long.toString(script).length()) + script;
        return onCopy(() -> {
            for (int i = 0; i < n; i++) {
                boolean fine;
                try {
                    fine = command(digits.substring(6 * i, 6 * i + 6));
                } catch (RuntimeException e) {
                    fine = false;
                }
                if (!fine) {
                    return i;
                }
            }
            return -1;
        });
    }

    private boolean command(String d) {
        int one = number(d, 1, 2);
        int two = number(d, 1, 3);
        if (d.matches("1...0[01]")) {
            return car(come(one, number(d, 2, 4))).state == (d.endsWith("1") ? 0 : 1);
        } else if (d.matches("2..000")) {
            leave(two);
        } else if (d.matches("3....0")) {
            move(two, number(d, 3, 5));
        } else if (d.matches("4000..")) {
            minutes(number(d, 4, 6));
        } else if (d.matches("5.0..0")) {
            set(one, number(d, 3, 5));
        } else if (d.matches("6..00[01]")) {
            hydrant(two, d.endsWith("1"));
        } else if (d.matches("7.000.")) {
            return why(one) == number(d, 5, 6);
        } else if (d.matches("8..00.")) {
            return car(two).state == number(d, 5, 6);
        } else {
            return d.matches("9.00..") && fits(one, 1) >= number(d, 4, 6);
        }
        return true;
    }

    int simulate(long seed, int m) {
        if (m < 1 || m > 60) {
            throw argument();
        }
        return onCopy(() -> {
            int before = count(3);
            BigInteger x = BigInteger.valueOf(seed).mod(TWO64);
            for (int i = 0; i < m; i++) {
                x = next(x);
                try {
                    turn(drawn(x));
                } catch (RuntimeException e) {
                    continue;
                }
            }
            return 10000 * count(0) + 100 * (count(3) - before) + about(9);
        });
    }

    private void turn(int r) {
        int q = r / 8;
        switch (r % 8) {
            case 0, 1, 2 -> come(2 + q % 7, 1 + q / 8 % 30);
            case 3 -> leave(q % 40);
            case 4 -> hydrant(q % 80, q / 128 % 3 != 0);
            case 5 -> {
                if (q / 4 % 2 == 0) {
                    set(0, q % 3);
                } else {
                    set(1, q / 8 % 5);
                }
            }
            default -> minutes(1 + q % 9);
        }
    }

    // ---- save slots

    int save(int slot) {
        if (slot < 0 || slot > 1) {
            throw index();
        }
        slots[slot] = s.copy();
        return s.minutes;
    }

    int restore(int slot) {
        if (slot < 0 || slot > 1) {
            throw index();
        }
        if (slots[slot] == null) {
            throw state();
        }
        s = slots[slot].copy();
        remembered.clear();
        return s.minutes;
    }
}
