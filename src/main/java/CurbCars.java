import java.util.Arrays;

/** Parked cars on a street: the face that ../shared/DOC.md promises. */
public final class CurbCars {

    public static final int NONE = -1;

    private static final int CELLS = 80;
    private static final int CARS = 40;
    private static final int HYDRANT = 100;
    private static final int MAX_TEXT = 120;
    private static final int MAX_REMEMBERED = 14;
    private static final int SLOTS = 2;
    private static final int LAST_WAIT = 100;
    private static final int MAX_COMMANDS = 3;
    private static final int MAX_TURNS = 60;
    private static final long GROUP = 1000000L;

    private static final int SHORTEST = 2;
    private static final int LONGEST = 8;
    private static final int MAX_STAY = 99;
    private static final int MAX_MINUTES = 60;

    private static final int PARKED = 0;
    private static final int ROUND = 1;
    private static final int LEFT = 2;
    private static final int GAVE_UP = 3;
    private static final int TOWED = 4;

    private static final int RULE = 0;
    private static final int ROOM = 1;
    private static final int PATIENCE = 2;

    private static final int LOWEST_GAP = 0;
    private static final int SHORTEST_GAP = 1;
    private static final int BY_CHANCE = 2;

    private final StreetText text = new StreetText();
    private final Street now = new Street();
    /** The copy for what would be, scripts and simulations; nothing is kept in it between calls. */
    private final Street trial = new Street();
    private final History history = new History();
    private final SaveSlots slots = new SaveSlots();

    public CurbCars() {
    }

    // ---- text

    public int append(int c) throws IllegalArgumentException, IllegalStateException {
        if (c < 0 || c > 255) {
            throw new IllegalArgumentException("c is not 0 to 255");
        }
        if (text.isFull()) {
            throw new IllegalStateException("the text has 120 characters");
        }
        return text.add((char) c);
    }

    public int clearText() {
        return text.empty();
    }

    public int errorPosition() {
        return text.firstError();
    }

    public int load() throws IllegalStateException {
        if (text.firstError() != NONE) {
            throw new IllegalStateException("the text is not a street");
        }
        now.makeNew();
        history.forget();
        slots.empty();
        int leftOut = 0;
        int start = 1;
        for (int i = 0; i < MAX_TEXT && text.hasLetter(start); i++) {
            if (text.doCommand(start, now) == NONE) {
                leftOut++;
            }
            start += text.commandSize(start);
        }
        return leftOut;
    }

    // ---- what there is

    public int about(int what) throws IllegalArgumentException {
        switch (what) {
            case 0: return now.came;
            case 1: return now.carsInState(PARKED);
            case 2: return now.carsInState(ROUND);
            case 3: return now.carsInState(LEFT);
            case 4: return now.carsInState(GAVE_UP);
            case 5: return now.carsInState(TOWED);
            case 6: return now.clock;
            case 7: return now.gapCount();
            case 8: return now.longestGap();
            case 9: return now.cellsWith(NONE);
            case 10: return now.cellsWith(HYDRANT);
            case 11: return now.allParkedMinutes();
            default: throw new IllegalArgumentException("what is not 0 to 11");
        }
    }

    public int carOf(int c, int what) throws IndexOutOfBoundsException, IllegalArgumentException {
        requireCar(c);
        switch (what) {
            case 0: return get(now.lengths, c);
            case 1: return get(now.stays, c);
            case 2: return get(now.states, c);
            case 3: return get(now.places, c);
            case 4: return get(now.parkedMinutes, c);
            case 5: return get(now.roundMinutes, c);
            case 6: return now.isParked(c) ? now.minutesLeft(c) : NONE;
            default: throw new IllegalArgumentException("what is not 0 to 6");
        }
    }

    public int at(int x) throws IndexOutOfBoundsException {
        requireCell(x);
        return get(now.cells, x);
    }

    public int gap(int k, int what) throws IndexOutOfBoundsException, IllegalArgumentException {
        int start = now.gapStart(k);
        if (start == NONE) {
            throw new IndexOutOfBoundsException("no such gap");
        }
        requireZeroOrOne(what);
        return what == 0 ? start : get(now.gapSizes, start);
    }

    public int setting(int what) throws IllegalArgumentException {
        int value = now.settingOf(what);
        if (value == NONE) {
            throw new IllegalArgumentException("what is not 0 to 2");
        }
        return value;
    }

    // ---- actions

    public int hydrant(int x, boolean on) throws IndexOutOfBoundsException, IllegalStateException {
        requireCell(x);
        if (!now.allowsHydrant(x, on)) {
            throw new IllegalStateException("a car stands there");
        }
        history.remember(now);
        return now.putHydrant(x, on);
    }

    public int come(int length, int stay) throws IllegalArgumentException, IllegalStateException {
        requireLength(length);
        if (!isStay(stay)) {
            throw new IllegalArgumentException("stay is not 1 to 99");
        }
        if (now.allCame()) {
            throw new IllegalStateException("40 cars came");
        }
        history.remember(now);
        return now.arrive(length, stay);
    }

    public int leave(int c) throws IndexOutOfBoundsException, IllegalStateException {
        requireCar(c);
        requireParked(c);
        history.remember(now);
        return now.depart(c, LEFT);
    }

    public int tow(int c) throws IndexOutOfBoundsException, IllegalStateException {
        requireCar(c);
        requireParked(c);
        history.remember(now);
        int minutesLeft = now.minutesLeft(c);
        now.depart(c, TOWED);
        return minutesLeft;
    }

    public int move(int c, int x) throws IndexOutOfBoundsException, IllegalStateException {
        requireCar(c);
        requireCell(x);
        if (!now.canShift(c, x)) {
            throw new IllegalStateException("the car is not parked, or cannot be moved there");
        }
        history.remember(now);
        return now.shift(c, x);
    }

    public int minutes(int n) throws IllegalArgumentException {
        if (!isMinutes(n)) {
            throw new IllegalArgumentException("n is not 1 to 60");
        }
        history.remember(now);
        return now.passMinutes(n);
    }

    public int set(int what, int v) throws IllegalArgumentException {
        if (!isSettingValue(what, v)) {
            throw new IllegalArgumentException("there is no such setting, or v is out of its range");
        }
        history.remember(now);
        return now.changeSetting(what, v);
    }

    public int undo() throws IllegalStateException {
        if (history.isEmpty()) {
            throw new IllegalStateException("no state is remembered");
        }
        return history.takeBack(now);
    }

    // ---- what would be

    public int why(int length) throws IllegalArgumentException {
        requireLength(length);
        return now.reasonAgainst(length);
    }

    public int place(int length) throws IllegalArgumentException {
        requireLength(length);
        return now.chosenPlace(length);
    }

    public int fits(int length, int way) throws IllegalArgumentException {
        requireLength(length);
        requireZeroOrOne(way);
        if (way == 1) {
            return now.fittingByGaps(length);
        }
        trial.copyFrom(now);
        trial.rule = LOWEST_GAP;
        return trial.fillWith(length);
    }

    public int gapIn(int length) throws IllegalArgumentException {
        requireLength(length);
        trial.copyFrom(now);
        for (int minute = 0; minute <= LAST_WAIT; minute++) {
            if (trial.reasonAgainst(length) == 0) {
                return minute;
            }
            trial.passMinutes(1);
        }
        return NONE;
    }

    public int mover(int length, int what) throws IllegalArgumentException {
        requireLength(length);
        requireZeroOrOne(what);
        int c = now.carToShift(length);
        return what == 0 || c == NONE ? c : now.placeToShiftTo(c, length);
    }

    public int jam(int length, long seed) throws IllegalArgumentException {
        requireLength(length);
        trial.copyFrom(now);
        trial.rule = BY_CHANCE;
        trial.chance = seed;
        return trial.fillWith(length);
    }

    // ---- scripts, simulations

    public int runScript(int n, long script) throws IllegalArgumentException {
        if (n < 1 || n > MAX_COMMANDS) {
            throw new IllegalArgumentException("n is not 1 to 3");
        }
        long unit = 1;
        for (int i = 1; i < n; i++) {
            unit *= GROUP;
        }
        if (script < 0 || script / GROUP >= unit) {
            throw new IllegalArgumentException("the script is negative or has more than 6 * n digits");
        }
        trial.copyFrom(now);
        for (int i = 0; i < n && unit > 0; i++) {
            if (!Script.succeeds((int) (script / unit % GROUP), trial)) {
                return i;
            }
            unit /= GROUP;
        }
        return NONE;
    }

    public int simulate(long seed, int m) throws IllegalArgumentException {
        if (m < 1 || m > MAX_TURNS) {
            throw new IllegalArgumentException("m is not 1 to 60");
        }
        trial.copyFrom(now);
        long x = seed;
        for (int i = 0; i < m; i++) {
            x = nextChance(x);
            Simulation.doTurn((int) (x >>> 33), trial);
        }
        int gaveUp = trial.carsInState(GAVE_UP) - now.carsInState(GAVE_UP);
        return 10000 * trial.carsInState(PARKED) + 100 * gaveUp + trial.cellsWith(NONE);
    }

    // ---- save slots

    public int save(int slot) throws IndexOutOfBoundsException {
        requireSlot(slot);
        slots.keep(slot, now);
        return now.clock;
    }

    public int restore(int slot) throws IndexOutOfBoundsException, IllegalStateException {
        requireSlot(slot);
        if (!slots.isFilled(slot)) {
            throw new IllegalStateException("nothing has been saved there");
        }
        slots.giveBack(slot, now);
        history.forget();
        return now.clock;
    }

    // ---- what the calls ask of their arguments

    private void requireCar(int c) {
        if (!now.isCar(c)) {
            throw new IndexOutOfBoundsException("no such car");
        }
    }

    private void requireParked(int c) {
        if (!now.isParked(c)) {
            throw new IllegalStateException("the car is not parked");
        }
    }

    private static void requireCell(int x) {
        if (!isCell(x)) {
            throw new IndexOutOfBoundsException("no such cell");
        }
    }

    private static void requireLength(int length) {
        if (!isLength(length)) {
            throw new IllegalArgumentException("length is not 2 to 8");
        }
    }

    private static void requireZeroOrOne(int choice) {
        if (choice != 0 && choice != 1) {
            throw new IllegalArgumentException("the second argument is neither 0 nor 1");
        }
    }

    private static void requireSlot(int slot) {
        if (slot < 0 || slot >= SLOTS) {
            throw new IndexOutOfBoundsException("no such save slot");
        }
    }

    private static boolean isCell(int x) {
        return x >= 0 && x < CELLS;
    }

    private static boolean isLength(int length) {
        return length >= SHORTEST && length <= LONGEST;
    }

    private static boolean isStay(int stay) {
        return stay >= 1 && stay <= MAX_STAY;
    }

    private static boolean isMinutes(int n) {
        return n >= 1 && n <= MAX_MINUTES;
    }

    private static boolean isSettingValue(int what, int v) {
        switch (what) {
            case RULE: return v >= LOWEST_GAP && v <= BY_CHANCE;
            case ROOM: return v >= 0 && v <= 4;
            case PATIENCE: return v >= 1 && v <= 30;
            default: return false;
        }
    }

    private static long nextChance(long chance) {
        return chance * 6364136223846793005L + 1442695040888963407L;
    }

    // ---- rows: an index is tested here, once for all, before the machine sees it

    private static int get(int[] row, int i) {
        if (row == null || i < 0 || i >= row.length) {
            return NONE;
        }
        return row[i];
    }

    private static void put(int[] row, int i, int value) {
        if (row == null || i < 0 || i >= row.length) {
            return;
        }
        row[i] = value;
    }

    private static void copyRow(int[] from, int[] to) {
        if (from == null || to == null || from.length != to.length) {
            return;
        }
        System.arraycopy(from, 0, to, 0, from.length);
    }

    private static Street streetOf(Street[] row, int i) {
        if (row == null || i < 0 || i >= row.length) {
            return null;
        }
        return row[i];
    }

    /**
     * The state: everything but the text, the remembered states and the save slots.
     * Its actions answer what the call of the face answers, or NONE, and change nothing, where that call throws.
     */
    private static final class Street {
        /** For each cell NONE if it is free, HYDRANT, or the car that stands on it. */
        private final int[] cells = new int[CELLS];
        /** For each cell how many cells the gap has whose lowest cell it is, 0 if it is none's. */
        private final int[] gapSizes = new int[CELLS];
        private final int[] lengths = new int[CARS];
        private final int[] stays = new int[CARS];
        private final int[] states = new int[CARS];
        private final int[] places = new int[CARS];
        private final int[] parkedMinutes = new int[CARS];
        private final int[] roundMinutes = new int[CARS];
        private int came;
        private int clock;
        private long chance;
        private int rule;
        private int room;
        private int patience;

        private Street() {
            makeNew();
        }

        /** The rows of the cars stay as they are: a car's numbers are all written when it comes. */
        private void makeNew() {
            Arrays.fill(cells, NONE);
            findGaps();
            came = 0;
            clock = 0;
            chance = 1;
            rule = LOWEST_GAP;
            room = 1;
            patience = 5;
        }

        private void copyFrom(Street other) {
            if (other == null) {
                return;
            }
            copyRow(other.cells, cells);
            copyRow(other.gapSizes, gapSizes);
            copyRow(other.lengths, lengths);
            copyRow(other.stays, stays);
            copyRow(other.states, states);
            copyRow(other.places, places);
            copyRow(other.parkedMinutes, parkedMinutes);
            copyRow(other.roundMinutes, roundMinutes);
            came = other.came;
            clock = other.clock;
            chance = other.chance;
            rule = other.rule;
            room = other.room;
            patience = other.patience;
        }

        // -- settings

        private int settingOf(int what) {
            switch (what) {
                case RULE: return rule;
                case ROOM: return room;
                case PATIENCE: return patience;
                default: return NONE;
            }
        }

        private int changeSetting(int what, int v) {
            if (!isSettingValue(what, v)) {
                return NONE;
            }
            int previous = settingOf(what);
            if (what == RULE) {
                rule = v;
            } else if (what == ROOM) {
                room = v;
            } else {
                patience = v;
            }
            return previous;
        }

        // -- cells and gaps

        private boolean isFree(int x) {
            return isCell(x) && get(cells, x) == NONE;
        }

        private int cellsWith(int mark) {
            int count = 0;
            for (int x = 0; x < cells.length; x++) {
                if (cells[x] == mark) {
                    count++;
                }
            }
            return count;
        }

        /** Has to be called whenever a cell has changed. */
        private void findGaps() {
            int start = 0;
            for (int x = 0; x < cells.length && x < gapSizes.length; x++) {
                gapSizes[x] = 0;
                if (cells[x] != NONE) {
                    start = x + 1;
                } else if (start >= 0 && start < gapSizes.length) {
                    gapSizes[start]++;
                }
            }
        }

        private int gapCount() {
            int count = 0;
            for (int x = 0; x < gapSizes.length; x++) {
                if (gapSizes[x] > 0) {
                    count++;
                }
            }
            return count;
        }

        private int gapStart(int k) {
            int number = 0;
            for (int x = 0; x < gapSizes.length; x++) {
                if (gapSizes[x] > 0) {
                    if (number == k) {
                        return x;
                    }
                    number++;
                }
            }
            return NONE;
        }

        private int longestGap() {
            int longest = 0;
            for (int x = 0; x < gapSizes.length; x++) {
                if (gapSizes[x] > longest) {
                    longest = gapSizes[x];
                }
            }
            return longest;
        }

        private void occupy(int x, int length, int mark) {
            for (int i = 0; i < length; i++) {
                put(cells, x + i, mark);
            }
            findGaps();
        }

        // -- where a car of a length parks

        private int reasonAgainst(int length) {
            int longest = longestGap();
            if (longest < length) {
                return 1;
            }
            return longest < length + room ? 2 : 0;
        }

        private int chosenPlace(int length) {
            if (rule == BY_CHANCE) {
                return placeByChance(length, nextChance(chance));
            }
            return rule == SHORTEST_GAP ? shortestGapFor(length) : lowestGapFor(length);
        }

        private int lowestGapFor(int length) {
            for (int x = 0; x < gapSizes.length; x++) {
                if (gapSizes[x] >= length + room) {
                    return x;
                }
            }
            return NONE;
        }

        private int shortestGapFor(int length) {
            int best = NONE;
            int bestSize = CELLS + 1;
            for (int x = 0; x < gapSizes.length; x++) {
                if (gapSizes[x] >= length + room && gapSizes[x] < bestSize) {
                    best = x;
                    bestSize = gapSizes[x];
                }
            }
            return best;
        }

        private int placeByChance(int length, long drawn) {
            int places = 0;
            for (int x = 0; x < gapSizes.length; x++) {
                if (gapSizes[x] >= length + room) {
                    places += gapSizes[x] - length + 1;
                }
            }
            if (places <= 0) {
                return NONE;
            }
            int number = (int) (drawn >>> 33) % places;
            for (int x = 0; x < gapSizes.length; x++) {
                int here = gapSizes[x] >= length + room ? gapSizes[x] - length + 1 : 0;
                if (number < here) {
                    return x + number;
                }
                number -= here;
            }
            return NONE;
        }

        /** The chance goes on only where a car parks by it. */
        private void useChance() {
            if (rule == BY_CHANCE) {
                chance = nextChance(chance);
            }
        }

        // -- cars

        private boolean isCar(int c) {
            return c >= 0 && c < came;
        }

        private boolean isParked(int c) {
            return isCar(c) && get(states, c) == PARKED;
        }

        private boolean allCame() {
            return came >= CARS;
        }

        private int carsInState(int state) {
            int count = 0;
            for (int c = 0; c < came; c++) {
                if (get(states, c) == state) {
                    count++;
                }
            }
            return count;
        }

        private int allParkedMinutes() {
            int sum = 0;
            for (int c = 0; c < came; c++) {
                sum += get(parkedMinutes, c);
            }
            return sum;
        }

        private int minutesLeft(int c) {
            return get(stays, c) - get(parkedMinutes, c);
        }

        private int arrive(int length, int stay) {
            if (!isLength(length) || !isStay(stay) || allCame()) {
                return NONE;
            }
            int c = came;
            came++;
            put(lengths, c, length);
            put(stays, c, stay);
            put(states, c, ROUND);
            put(places, c, NONE);
            put(parkedMinutes, c, 0);
            put(roundMinutes, c, 0);
            tryToPark(c);
            return c;
        }

        private boolean tryToPark(int c) {
            int length = get(lengths, c);
            int x = chosenPlace(length);
            if (x == NONE) {
                return false;
            }
            useChance();
            occupy(x, length, c);
            put(places, c, x);
            put(states, c, PARKED);
            return true;
        }

        private int depart(int c, int state) {
            if (!isParked(c)) {
                return NONE;
            }
            int x = get(places, c);
            occupy(x, get(lengths, c), NONE);
            put(places, c, NONE);
            put(states, c, state);
            return x;
        }

        private boolean canShift(int c, int x) {
            int from = get(places, c);
            int length = get(lengths, c);
            if (!isParked(c) || !isCell(x) || x + length > CELLS) {
                return false;
            }
            int end = (from > x ? from : x) + length;
            for (int y = from < x ? from : x; y < end; y++) {
                if (!isFree(y) && get(cells, y) != c) {
                    return false;
                }
            }
            return true;
        }

        private int shift(int c, int x) {
            if (!canShift(c, x)) {
                return NONE;
            }
            int from = get(places, c);
            int length = get(lengths, c);
            occupy(from, length, NONE);
            occupy(x, length, c);
            put(places, c, x);
            return from < x ? x - from : from - x;
        }

        private boolean allowsHydrant(int x, boolean on) {
            return isCell(x) && (!on || isFree(x) || get(cells, x) == HYDRANT);
        }

        private int putHydrant(int x, boolean on) {
            if (!allowsHydrant(x, on)) {
                return NONE;
            }
            if (on) {
                occupy(x, 1, HYDRANT);
            } else if (get(cells, x) == HYDRANT) {
                occupy(x, 1, NONE);
            }
            return cellsWith(HYDRANT);
        }

        // -- minutes

        private int passMinutes(int n) {
            if (!isMinutes(n)) {
                return NONE;
            }
            int parked = 0;
            for (int i = 0; i < n; i++) {
                clock++;
                letParkedCarsLeave();
                parked += letCarsGoRound();
            }
            return parked;
        }

        private void letParkedCarsLeave() {
            for (int c = 0; c < came; c++) {
                if (isParked(c)) {
                    put(parkedMinutes, c, get(parkedMinutes, c) + 1);
                    if (minutesLeft(c) <= 0) {
                        depart(c, LEFT);
                    }
                }
            }
        }

        private int letCarsGoRound() {
            int parked = 0;
            for (int c = 0; c < came; c++) {
                if (get(states, c) == ROUND) {
                    if (tryToPark(c)) {
                        parked++;
                    } else {
                        goRoundOnce(c);
                    }
                }
            }
            return parked;
        }

        private void goRoundOnce(int c) {
            int gone = get(roundMinutes, c) + 1;
            put(roundMinutes, c, gone);
            if (gone >= patience) {
                put(states, c, GAVE_UP);
            }
        }

        // -- what would be

        private int fittingByGaps(int length) {
            int count = 0;
            for (int x = 0; x < gapSizes.length; x++) {
                if (length > 0 && gapSizes[x] >= length + room) {
                    count += (gapSizes[x] - room) / length;
                }
            }
            return count;
        }

        /**
         * Parks cars on a copy by its rule, till none can; returns how many.
         * They are not numbered, since more than 40 may be needed: any mark but NONE will do.
         */
        private int fillWith(int length) {
            int count = 0;
            int x = chosenPlace(length);
            while (x != NONE && count < CELLS) {
                useChance();
                occupy(x, length, HYDRANT);
                count++;
                x = chosenPlace(length);
            }
            return count;
        }

        private int freeBelow(int c) {
            int count = 0;
            for (int y = get(places, c) - 1; y >= 0 && isFree(y); y--) {
                count++;
            }
            return count;
        }

        private int freeAbove(int c) {
            int count = 0;
            for (int y = get(places, c) + get(lengths, c); y < CELLS && isFree(y); y++) {
                count++;
            }
            return count;
        }

        /** A car moved to one end of its room gives the other end all the cells free beside it. */
        private int carToShift(int length) {
            if (reasonAgainst(length) == 0) {
                return NONE;
            }
            for (int c = 0; c < came; c++) {
                if (isParked(c) && freeBelow(c) + freeAbove(c) >= length + room) {
                    return c;
                }
            }
            return NONE;
        }

        /** Going down opens the cells above it and the other way round: the larger side needs less. */
        private int placeToShiftTo(int c, int length) {
            int below = freeBelow(c);
            int above = freeAbove(c);
            int x = get(places, c);
            return above >= below ? x - (length + room - above) : x + (length + room - below);
        }
    }

    /** The states before the last actions, in a ring of rows that are used again. */
    private static final class History {
        private final Street[] kept = new Street[MAX_REMEMBERED];
        private int oldest;
        private int count;

        private History() {
            for (int i = 0; i < kept.length; i++) {
                kept[i] = new Street();
            }
        }

        private boolean isEmpty() {
            return count <= 0;
        }

        private void forget() {
            count = 0;
        }

        private void remember(Street street) {
            if (count >= MAX_REMEMBERED) {
                oldest = (oldest + 1) % MAX_REMEMBERED;
                count--;
            }
            Street row = streetOf(kept, (oldest + count) % MAX_REMEMBERED);
            if (row != null) {
                row.copyFrom(street);
                count++;
            }
        }

        private int takeBack(Street street) {
            if (street == null || isEmpty()) {
                return NONE;
            }
            count--;
            street.copyFrom(streetOf(kept, (oldest + count) % MAX_REMEMBERED));
            return count;
        }
    }

    /** The two save slots. */
    private static final class SaveSlots {
        private final Street[] kept = new Street[SLOTS];
        private final boolean[] filled = new boolean[SLOTS];

        private SaveSlots() {
            for (int i = 0; i < kept.length; i++) {
                kept[i] = new Street();
            }
        }

        private void empty() {
            for (int i = 0; i < filled.length; i++) {
                filled[i] = false;
            }
        }

        private boolean isFilled(int slot) {
            return slot >= 0 && slot < filled.length && filled[slot];
        }

        private void keep(int slot, Street street) {
            Street row = streetOf(kept, slot);
            if (row != null && slot >= 0 && slot < filled.length) {
                row.copyFrom(street);
                filled[slot] = true;
            }
        }

        private void giveBack(int slot, Street street) {
            if (street != null && isFilled(slot)) {
                street.copyFrom(streetOf(kept, slot));
            }
        }
    }

    /** The text buffer, and how its commands are read. */
    private static final class StreetText {
        private final char[] letters = new char[MAX_TEXT];
        private int size;

        private boolean isFull() {
            return size >= MAX_TEXT;
        }

        private int add(char letter) {
            if (size >= 0 && size < letters.length) {
                letters[size] = letter;
                size++;
            }
            return size;
        }

        private int empty() {
            int before = size;
            size = 0;
            return before;
        }

        private boolean hasLetter(int i) {
            return i >= 0 && i < size;
        }

        /** NONE behind the end: no rule allows it, so that the first error of a text too short is its length. */
        private int letterAt(int i) {
            if (i < 0 || i >= size || i >= letters.length) {
                return NONE;
            }
            return letters[i];
        }

        private int firstError() {
            if (letterAt(0) != 'S') {
                return 0;
            }
            int start = 1;
            for (int i = 0; i < MAX_TEXT && hasLetter(start); i++) {
                int error = errorInCommand(start);
                if (error != NONE) {
                    return error;
                }
                start += commandSize(start);
            }
            return NONE;
        }

        private int errorInCommand(int start) {
            switch (letterAt(start)) {
                case 'h': return firstOf(errorInCell(start + 1), errorInSign(start + 3));
                case 'c': return firstOf(errorInNumber(start + 1, 1, SHORTEST, LONGEST),
                        errorInNumber(start + 2, 2, 1, MAX_STAY));
                case 'l': return errorInCar(start + 1);
                case 't': return errorInCar(start + 1);
                case 'm': return firstOf(errorInCar(start + 1), errorInCell(start + 3));
                case 'r': return errorInNumber(start + 1, 1, LOWEST_GAP, BY_CHANCE);
                case 'p': return errorInNumber(start + 1, 2, 1, MAX_MINUTES);
                default: return start;
            }
        }

        private int commandSize(int start) {
            switch (letterAt(start)) {
                case 'h': return 4;
                case 'c': return 4;
                case 'm': return 5;
                case 'r': return 2;
                default: return 3;
            }
        }

        private static int firstOf(int error, int laterError) {
            return error != NONE ? error : laterError;
        }

        private int errorInCell(int start) {
            return errorInNumber(start, 2, 0, CELLS - 1);
        }

        private int errorInCar(int start) {
            return errorInNumber(start, 2, 0, CARS - 1);
        }

        private int errorInSign(int i) {
            return letterAt(i) == '+' || letterAt(i) == '-' ? NONE : i;
        }

        /** A digit is wrong if every number that begins so is outside low to high. */
        private int errorInNumber(int start, int digits, int low, int high) {
            int least = 0;
            int span = digits == 2 ? 100 : 10;
            for (int i = 0; i < digits; i++) {
                int letter = letterAt(start + i);
                if (letter < '0' || letter > '9') {
                    return start + i;
                }
                span /= 10;
                least += (letter - '0') * span;
                if (least > high || least + span - 1 < low) {
                    return start + i;
                }
            }
            return NONE;
        }

        /** Does a command of a text without error; returns NONE if it is left out. */
        private int doCommand(int start, Street street) {
            if (street == null) {
                return NONE;
            }
            switch (letterAt(start)) {
                case 'h': return street.putHydrant(twoDigits(start + 1), letterAt(start + 3) == '+');
                case 'c': return street.arrive(digit(start + 1), twoDigits(start + 2));
                case 'l': return street.depart(twoDigits(start + 1), LEFT);
                case 't': return street.depart(twoDigits(start + 1), TOWED);
                case 'm': return street.shift(twoDigits(start + 1), twoDigits(start + 3));
                case 'r': return street.changeSetting(RULE, digit(start + 1));
                case 'p': return street.passMinutes(twoDigits(start + 1));
                default: return NONE;
            }
        }

        private int digit(int i) {
            return letterAt(i) - '0';
        }

        private int twoDigits(int i) {
            return 10 * digit(i) + digit(i + 1);
        }
    }

    /** Scripts: a command is a group of six decimal digits, d1 to d6. */
    private static final class Script {

        private static boolean succeeds(int group, Street street) {
            if (street == null) {
                return false;
            }
            int d2 = group / 10000 % 10;
            int d2d3 = group / 1000 % 100;
            int d4d5 = group / 10 % 100;
            int d5d6 = group % 100;
            int d6 = group % 10;
            switch (group / 100000) {
                case 1: return comesAsTold(group, street);
                case 2: return group % 1000 == 0 && street.depart(d2d3, LEFT) != NONE;
                case 3: return d6 == 0 && street.shift(d2d3, d4d5) != NONE;
                case 4: return group / 100 % 1000 == 0 && street.passMinutes(d5d6) != NONE;
                case 5: return d2d3 % 10 == 0 && d6 == 0 && street.changeSetting(d2, d4d5) != NONE;
                case 6: return d4d5 == 0 && d6 <= 1 && street.putHydrant(d2d3, d6 == 1) != NONE;
                case 7: return group / 10 % 1000 == 0 && isLength(d2) && street.reasonAgainst(d2) == d6;
                case 8: return d4d5 == 0 && street.isCar(d2d3) && get(street.states, d2d3) == d6;
                case 9: return group / 100 % 100 == 0 && isLength(d2) && street.fittingByGaps(d2) >= d5d6;
                default: return false;
            }
        }

        private static boolean comesAsTold(int group, Street street) {
            int d5d6 = group % 100;
            if (d5d6 > 1) {
                return false;
            }
            int c = street.arrive(group / 10000 % 10, group / 100 % 100);
            return c != NONE && street.isParked(c) == (d5d6 == 1);
        }
    }

    /** Simulations: each turn is one action, told by a number of chance. */
    private static final class Simulation {

        private static void doTurn(int r, Street street) {
            int q = r / 8;
            if (street == null) {
                return;
            }
            switch (r % 8) {
                case 0:
                case 1:
                case 2:
                    street.arrive(2 + q % 7, 1 + q / 8 % 30);
                    break;
                case 3:
                    street.depart(q % 40, LEFT);
                    break;
                case 4:
                    street.putHydrant(q % 80, q / 128 % 3 != 0);
                    break;
                case 5:
                    changeRuleOrRoom(q, street);
                    break;
                default:
                    street.passMinutes(1 + q % 9);
                    break;
            }
        }

        private static void changeRuleOrRoom(int q, Street street) {
            if (q / 4 % 2 == 0) {
                street.changeSetting(RULE, q % 3);
            } else {
                street.changeSetting(ROOM, q / 8 % 5);
            }
        }
    }
}
