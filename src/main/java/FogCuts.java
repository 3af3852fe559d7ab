/** A bank of fog, carved on the eve of the fair; what each call answers stands in the document. */
public final class FogCuts {
    public static final int NONE = -6, UNKNOWN = -1, OUTSIDE = -2, STATE = -3, FULL = -4, NO = -5;
    public static final long LOST = -1000000000000000000L;

    private static final int MOST_ROWS = 4;
    private static final int MOST_COLUMNS = 6;
    private static final int MOST_CELLS = 24;
    private static final int THICKEST = 9;
    private static final int SHAPES = 4;
    private static final int MOST_SIGHTS = 8;
    private static final int MOST_SIGNS = 60;
    private static final int MOST_NOW_THEN = 3;
    private static final int MOST_DARK = 8;
    private static final int IMAGES = 2;

    // An hour is one of these; the first four are also the sides of a cell, in a year's order.
    private static final int NORTH = 0;
    private static final int EAST = 1;
    private static final int SOUTH = 2;
    private static final int WEST = 3;
    private static final int RIVER = 4;
    private static final int STILL = 5;
    private static final int SIDES = 4;

    private static final int NO_CELL = -1;
    private static final int NOT_WANTED = -1;
    private static final int NOBODY_WATCHED = -1;
    private static final int TOO_FAR = 1000000;
    // More than any way has steps, so that what is spoilt always weighs more.
    private static final int SPOILT = 100;

    private final Bank now = new Bank();
    private final Bank trial = new Bank();
    private final Night night = new Night();
    private final Bank[] images = new Bank[IMAGES];
    private final int[] picked = new int[MOST_CELLS];
    private final int[] fitting = new int[MOST_CELLS * THICKEST];
    private final int[] toGo = new int[MOST_CELLS];

    public FogCuts() {
    }

    // ---- 1 banks, nights

    public int bank(int rows, int columns) {
        if (!isWithin(rows, 1, MOST_ROWS) || !isWithin(columns, 1, MOST_COLUMNS)) {
            return OUTSIDE;
        }
        now.clear(rows, columns);
        return now.cells;
    }

    public int cell(int cell, int what, int v) {
        if (!now.has(cell)) {
            return UNKNOWN;
        }
        if (!isWithin(what, 0, 1) || !isWithin(v, 0, what == 0 ? THICKEST : 1)) {
            return OUTSIDE;
        }
        int was = now.tell(cell, what);
        if (what == 0) {
            put(now.thick, cell, v);
        } else {
            now.light(cell, v);
        }
        return was;
    }

    public int set(int which, int v) {
        if (which == 0 && isWithin(v, 1, 5)) {
            int was = now.feed;
            now.feed = v;
            return was;
        }
        if (which == 1 && isWithin(v, 0, 3)) {
            int was = now.slack;
            now.slack = v;
            return was;
        }
        return OUTSIDE;
    }

    public int shape(int shape, int cell, int v) {
        if (!isWithin(shape, 0, SHAPES - 1) || !now.has(cell)) {
            return UNKNOWN;
        }
        if (!isWithin(v, NOT_WANTED, THICKEST)) {
            return OUTSIDE;
        }
        put(now.wanted, shape * MOST_CELLS + cell, v);
        return now.wishes(shape);
    }

    public int say(int sign) {
        if (!isWithin(sign, 33, 126)) {
            return OUTSIDE;
        }
        if (night.count >= MOST_SIGNS) {
            return FULL;
        }
        put(night.signs, night.count, sign);
        night.count++;
        return night.count;
    }

    public int wipe() {
        int were = night.count;
        night.count = 0;
        return were;
    }

    public int fault() {
        return night.firstFault(now);
    }

    // ---- 2 nights, shapes

    public int judge(int what) {
        if (!isWithin(what, 0, 1)) {
            return OUTSIDE;
        }
        if (night.firstFault(now) != NONE) {
            return NO;
        }
        night.play(now, trial, NOBODY_WATCHED);
        return what == 0 ? night.halted : night.why;
    }

    public int done() {
        if (!canBeDone(NOBODY_WATCHED)) {
            return NO;
        }
        now.copyFog(trial);
        night.count = 0;
        return night.parts;
    }

    public int state(int cell, int what) {
        if (!now.has(cell)) {
            return UNKNOWN;
        }
        return isWithin(what, 0, 1) ? now.tell(cell, what) : OUTSIDE;
    }

    public int behind(int cell, int what) {
        if (!now.has(cell)) {
            return UNKNOWN;
        }
        if (!isWithin(what, 0, 1)) {
            return OUTSIDE;
        }
        return canBeDone(NOBODY_WATCHED) ? trial.tell(cell, what) : NO;
    }

    public int stands(int shape) {
        if (!isShape(shape)) {
            return UNKNOWN;
        }
        return now.holds(shape) ? 1 : 0;
    }

    public int lost(int shape) {
        if (!isShape(shape)) {
            return UNKNOWN;
        }
        return canBeDone(shape) ? night.fallen : NO;
    }

    public int through() {
        int bits = 0;
        for (int row = 0; row < now.rows; row++) {
            boolean open = true;
            for (int column = 0; column < now.columns; column++) {
                open = open && at(now.thick, row * now.columns + column) == 0;
            }
            bits |= open ? 1 << row : 0;
        }
        return bits;
    }

    // ---- 3 carving

    public int carved(int shape) {
        return isShape(shape) ? now.acts(shape, 0, 0) : UNKNOWN;
    }

    public int nowThen(int shape, int what) {
        if (!isShape(shape)) {
            return UNKNOWN;
        }
        if (!isWithin(what, 0, 1)) {
            return OUTSIDE;
        }
        if (!night.isHoursAlone()) {
            return NO;
        }
        if (now.wishes(shape) > MOST_NOW_THEN) {
            return FULL;
        }
        return countOrBits(fewestCuts(shape), what);
    }

    public int dark(int shape, int what) {
        if (!isShape(shape)) {
            return UNKNOWN;
        }
        if (!isWithin(what, 0, 1)) {
            return OUTSIDE;
        }
        if (!night.isHoursAlone()) {
            return NO;
        }
        if (Integer.bitCount(now.lampBits()) > MOST_DARK) {
            return FULL;
        }
        return countOrBits(fewestLamps(shape), what);
    }

    public int moved(int shape, int what) {
        if (!isShape(shape)) {
            return UNKNOWN;
        }
        if (!isWithin(what, 0, 1)) {
            return OUTSIDE;
        }
        int least = TOO_FAR;
        int byHowMuch = NONE;
        for (int down = 1 - MOST_ROWS; down < MOST_ROWS; down++) {
            for (int on = 1 - MOST_COLUMNS; on < MOST_COLUMNS; on++) {
                int acts = now.acts(shape, down, on);
                if (acts < least) {
                    least = acts;
                    byHowMuch = 100 * (down + 3) + on + 5;
                }
            }
        }
        return what == 0 ? least : byHowMuch;
    }

    public int apart(int i) {
        int count = 0;
        for (int lesser = 0; lesser < SHAPES; lesser++) {
            for (int greater = lesser + 1; greater < SHAPES; greater++) {
                if (now.neverTogether(lesser, greater)) {
                    if (count == i) {
                        return 10 * lesser + greater;
                    }
                    count++;
                }
            }
        }
        return i == -1 ? count : NONE;
    }

    public int walk(int from, int to, int what) {
        if (!now.has(from) || !now.has(to)) {
            return UNKNOWN;
        }
        if (!isWithin(what, 0, 2)) {
            return OUTSIDE;
        }
        weighWays(to);
        int weight = at(toGo, from);
        if (what == 0) {
            return weight / SPOILT;
        }
        return what == 1 ? weight % SPOILT : firstStep(from, to);
    }

    // ---- 4 crews, sights, chance

    public int wins(int set) {
        if (!isSet(set)) {
            return OUTSIDE;
        }
        return nimSum(set) != 0 ? 0 : 1;
    }

    public int cut(int set) {
        if (!isSet(set)) {
            return OUTSIDE;
        }
        int sum = nimSum(set);
        for (int cell = 0; cell < now.cells; cell++) {
            int has = at(now.thick, cell);
            // The one number that leaves the other crew a sum of 0.
            int number = has ^ sum;
            if ((set >> cell & 1) == 1 && number < has) {
                return 10 * cell + number;
            }
        }
        return NONE;
    }

    public int seen(int cell, int v) {
        if (!now.has(cell)) {
            return UNKNOWN;
        }
        if (!isWithin(v, 0, THICKEST)) {
            return OUTSIDE;
        }
        if (now.sights >= MOST_SIGHTS) {
            return FULL;
        }
        put(now.sightCells, now.sights, cell);
        put(now.sightNumbers, now.sights, v);
        now.sights++;
        return now.sights;
    }

    public int forget() {
        int were = now.sights;
        now.sights = 0;
        return were;
    }

    public int what(int i) {
        if (!night.isHoursAlone()) {
            return NO;
        }
        int count = findFitting();
        if (i == -1) {
            return count;
        }
        return isWithin(i, 0, count - 1) ? at(fitting, i) : NONE;
    }

    public int where() {
        if (!night.isHoursAlone()) {
            return NO;
        }
        int count = findFitting();
        int bits = 0;
        for (int i = 0; i < count; i++) {
            bits |= 1 << at(fitting, i) / 10;
        }
        return bits;
    }

    public long chance(int shape, int t, int m, int part) {
        if (!isShape(shape)) {
            return LOST + UNKNOWN;
        }
        if (!isWithin(t, 0, 10) || !isWithin(m, 0, 8) || !isWithin(part, 0, 1)) {
            return LOST + OUTSIDE;
        }
        long upper = tenthsThatStand(shape, t, m);
        long lower = power(10, m);
        // The lower number has no other factors than m twos and m fives.
        for (int i = 0; i < m; i++) {
            if (upper % 2 == 0 && lower % 2 == 0) {
                upper /= 2;
                lower /= 2;
            }
            if (upper % 5 == 0 && lower % 5 == 0) {
                upper /= 5;
                lower /= 5;
            }
        }
        return part == 0 ? upper : lower;
    }

    public int year(int seed, int m, int what) {
        if (!isWithin(seed, 0, 9999) || !isWithin(m, 1, 99) || !isWithin(what, 0, 2)) {
            return OUTSIDE;
        }
        trial.copyAll(now);
        int x = seed;
        int fallen = 0;
        int most = 0;
        for (int i = 0; i < m; i++) {
            x = (75 * x + 74) % 65537;
            trial.pass(Math.min(x % 8, STILL));
            fallen += trial.someShapeFell() ? 1 : 0;
            most = Math.max(most, trial.thickest());
        }
        if (what == 0) {
            return trial.together();
        }
        return what == 1 ? fallen : most;
    }

    public int image(int n) {
        if (n < 0 || n >= images.length) {
            return OUTSIDE;
        }
        Bank kept = images[n];
        if (kept == null) {
            kept = new Bank();
            images[n] = kept;
        }
        kept.copyAll(now);
        return 1;
    }

    public int restore(int n) {
        if (n < 0 || n >= images.length) {
            return OUTSIDE;
        }
        Bank kept = images[n];
        if (kept == null) {
            return STATE;
        }
        now.copyAll(kept);
        return 1;
    }

    public int told(int what) {
        switch (what) {
            case 0: return night.count;
            case 1: return now.rows;
            case 2: return now.columns;
            case 3: return now.feed;
            case 4: return now.slack;
            case 5: return now.lampBits();
            case 6: return now.sights;
            case 7: return now.together();
            default: break;
        }
        int shape = what / 100 - 1;
        int cell = what % 100;
        return isWithin(shape, 0, SHAPES - 1) && now.has(cell) ? now.wants(shape, cell) : OUTSIDE;
    }

    // ---- what the calls share

    private boolean isShape(int shape) {
        return isWithin(shape, 0, SHAPES - 1) && now.wishes(shape) > 0;
    }

    private boolean isSet(int set) {
        return isWithin(set, 0, (1 << now.cells) - 1);
    }

    /** Leaves what is so behind the night in the trial bank. */
    private boolean canBeDone(int watched) {
        if (night.firstFault(now) != NONE) {
            return false;
        }
        night.play(now, trial, watched);
        return night.halted == NONE;
    }

    private static int countOrBits(int bits, int what) {
        return what == 0 && bits != NONE ? Integer.bitCount(bits) : bits;
    }

    private int fewestCuts(int shape) {
        int count = 0;
        for (int cell = 0; cell < now.cells; cell++) {
            if (now.wants(shape, cell) != NOT_WANTED) {
                put(picked, count, cell);
                count++;
            }
        }
        trial.copyAll(now);
        for (int size = 0; size <= count; size++) {
            for (int choice = 0; choice < 1 << count; choice++) {
                if (Integer.bitCount(choice) == size && standsByCuts(shape, choice, count)) {
                    return pickedBits(choice, count);
                }
            }
        }
        return NONE;
    }

    /** Whether some numbers for just the cells of this choice do; each choice of numbers has a code. */
    private boolean standsByCuts(int shape, int choice, int count) {
        int codes = 1;
        for (int i = 0; i < count; i++) {
            codes *= (choice >> i & 1) == 1 ? at(now.thick, at(picked, i)) : 1;
        }
        for (int code = 0; code < codes; code++) {
            trial.copyFog(now);
            int rest = code;
            for (int i = 0; i < count; i++) {
                int cell = at(picked, i);
                int has = at(now.thick, cell);
                if ((choice >> i & 1) == 1 && has > 0) {
                    put(trial.thick, cell, rest % has);
                    rest /= has;
                }
            }
            night.passHours(trial);
            if (trial.holds(shape)) {
                return true;
            }
        }
        return false;
    }

    private int fewestLamps(int shape) {
        int count = 0;
        for (int cell = 0; cell < now.cells; cell++) {
            if (at(now.lamp, cell) == 1) {
                put(picked, count, cell);
                count++;
            }
        }
        trial.copyAll(now);
        for (int size = 0; size <= count; size++) {
            for (int choice = 0; choice < 1 << count; choice++) {
                if (Integer.bitCount(choice) == size && standsWithout(shape, pickedBits(choice, count))) {
                    return pickedBits(choice, count);
                }
            }
        }
        return NONE;
    }

    private boolean standsWithout(int shape, int lampBits) {
        trial.copyFog(now);
        trial.putOut(lampBits);
        night.passHours(trial);
        return trial.holds(shape);
    }

    /** Cells are picked rising, so that choices and their bits rise together. */
    private int pickedBits(int choice, int count) {
        int bits = 0;
        for (int i = 0; i < count; i++) {
            bits |= (choice >> i & 1) == 1 ? 1 << at(picked, i) : 0;
        }
        return bits;
    }

    /** What each cell's best way has ahead of it, the cell itself included: SPOILT for each that is, 1 a step. */
    private void weighWays(int to) {
        for (int cell = 0; cell < now.cells; cell++) {
            put(toGo, cell, cell == to ? spoiltIn(cell) : TOO_FAR);
        }
        for (int round = 0; round < now.cells; round++) {
            for (int cell = 0; cell < now.cells; cell++) {
                for (int side = 0; side < SIDES; side++) {
                    int next = now.beside(cell, side);
                    if (next != NO_CELL) {
                        int weight = at(toGo, next) + 1 + spoiltIn(cell);
                        put(toGo, cell, Math.min(at(toGo, cell), weight));
                    }
                }
            }
        }
    }

    private int spoiltIn(int cell) {
        return now.isWanted(cell) ? SPOILT : 0;
    }

    private int firstStep(int from, int to) {
        int first = NONE;
        for (int side = 0; side < SIDES && from != to; side++) {
            int next = now.beside(from, side);
            boolean best = next != NO_CELL && at(toGo, next) + 1 + spoiltIn(from) == at(toGo, from);
            if (best && (first == NONE || next < first)) {
                first = next;
            }
        }
        return first;
    }

    /** The crews play nim: who begins has lost just where the numbers, as bits, cancel out. */
    private int nimSum(int set) {
        int sum = 0;
        for (int cell = 0; cell < now.cells; cell++) {
            sum ^= (set >> cell & 1) == 1 ? at(now.thick, cell) : 0;
        }
        return sum;
    }

    private int findFitting() {
        int count = 0;
        trial.copyAll(now);
        for (int cell = 0; cell < now.cells; cell++) {
            int has = at(now.thick, cell);
            for (int number = 0; number < has; number++) {
                trial.copyFog(now);
                put(trial.thick, cell, number);
                night.passHours(trial);
                if (trial.sightsHold()) {
                    put(fitting, count, 10 * cell + number);
                    count++;
                }
            }
        }
        return count;
    }

    /** Of all the ways that the hours can go, each as heavy as its tenths: the weight of those that stand. */
    private long tenthsThatStand(int shape, int t, int m) {
        long sum = 0;
        trial.copyAll(now);
        for (int way = 0; way < 1 << m; way++) {
            int windy = Integer.bitCount(way);
            long weight = power(t, windy) * power(10 - t, m - windy);
            if (weight > 0) {
                trial.copyFog(now);
                for (int i = 0; i < m; i++) {
                    trial.pass((way >> i & 1) == 1 ? EAST : STILL);
                }
                sum += trial.holds(shape) ? weight : 0;
            }
        }
        return sum;
    }

    private static long power(int base, int times) {
        long product = 1;
        for (int i = 0; i < times; i++) {
            product *= base;
        }
        return product;
    }

    private static boolean isWithin(int number, int least, int most) {
        return number >= least && number <= most;
    }

    private static int at(int[] row, int place) {
        return row != null && place >= 0 && place < row.length ? row[place] : 0;
    }

    private static void put(int[] row, int place, int number) {
        if (row != null && place >= 0 && place < row.length) {
            row[place] = number;
        }
    }

    private static void fill(int[] row, int number) {
        if (row != null) {
            for (int i = 0; i < row.length; i++) {
                row[i] = number;
            }
        }
    }

    private static void copyRow(int[] from, int[] to) {
        if (from != null && to != null) {
            for (int i = 0; i < from.length && i < to.length; i++) {
                to[i] = from[i];
            }
        }
    }

    private static int hourOf(int sign) {
        switch (sign) {
            case '^': return NORTH;
            case '>': return EAST;
            case '_': return SOUTH;
            case '<': return WEST;
            case '~': return RIVER;
            case '.': return STILL;
            default: return NONE;
        }
    }

    /** All but the pad: what a bank is, what it holds, what is wanted of it and what was seen. */
    private static final class Bank {
        int rows;
        int columns;
        int cells;
        int feed;
        int slack;
        int sights;
        final int[] thick = new int[MOST_CELLS];
        final int[] lamp = new int[MOST_CELLS];
        // What lamps take in an hour: kept, since lamps change far less often than hours pass.
        final int[] melt = new int[MOST_CELLS];
        final int[] was = new int[MOST_CELLS];
        final int[] wanted = new int[SHAPES * MOST_CELLS];
        final int[] sightCells = new int[MOST_SIGHTS];
        final int[] sightNumbers = new int[MOST_SIGHTS];

        Bank() {
            clear(3, 4);
        }

        void clear(int newRows, int newColumns) {
            rows = newRows;
            columns = newColumns;
            cells = newRows * newColumns;
            feed = 2;
            slack = 1;
            sights = 0;
            fill(thick, 0);
            fill(lamp, 0);
            fill(melt, 0);
            fill(wanted, NOT_WANTED);
        }

        void copyAll(Bank other) {
            if (other == null) {
                return;
            }
            rows = other.rows;
            columns = other.columns;
            cells = other.cells;
            feed = other.feed;
            slack = other.slack;
            sights = other.sights;
            copyRow(other.wanted, wanted);
            copyRow(other.sightCells, sightCells);
            copyRow(other.sightNumbers, sightNumbers);
            copyFog(other);
        }

        /** Enough where the other bank is already the same in all else. */
        void copyFog(Bank other) {
            if (other == null) {
                return;
            }
            copyRow(other.thick, thick);
            copyRow(other.lamp, lamp);
            copyRow(other.melt, melt);
        }

        boolean has(int cell) {
            return cell >= 0 && cell < cells;
        }

        int cellAt(int row, int column) {
            boolean inside = row >= 0 && row < rows && column >= 0 && column < columns;
            return inside ? row * columns + column : NO_CELL;
        }

        int beside(int cell, int side) {
            if (columns < 1) {
                return NO_CELL;
            }
            return cellAt(cell / columns + down(side), cell % columns + on(side));
        }

        private static int down(int side) {
            return side == SOUTH ? 1 : side == NORTH ? -1 : 0;
        }

        private static int on(int side) {
            return side == EAST ? 1 : side == WEST ? -1 : 0;
        }

        int tell(int cell, int what) {
            return what == 0 ? at(thick, cell) : at(lamp, cell);
        }

        void light(int cell, int lit) {
            put(lamp, cell, lit);
            warm();
        }

        void putOut(int lampBits) {
            for (int cell = 0; cell < cells; cell++) {
                if ((lampBits >> cell & 1) == 1) {
                    put(lamp, cell, 0);
                }
            }
            warm();
        }

        /** Lamps do not add up: a cell loses 2 by its own, or else 1, by however many beside it. */
        private void warm() {
            for (int row = 0; row < rows; row++) {
                for (int column = 0; column < columns; column++) {
                    int cell = row * columns + column;
                    int near = at(lamp, cellAt(row - 1, column)) + at(lamp, cellAt(row + 1, column))
                            + at(lamp, cellAt(row, column - 1)) + at(lamp, cellAt(row, column + 1));
                    put(melt, cell, at(lamp, cell) == 1 ? 2 : Math.min(near, 1));
                }
            }
        }

        void pass(int hour) {
            for (int cell = 0; cell < cells; cell++) {
                put(thick, cell, Math.max(0, at(thick, cell) - at(melt, cell)));
            }
            if (hour == RIVER) {
                for (int row = 0; row < rows; row++) {
                    int cell = row * columns;
                    put(thick, cell, Math.min(THICKEST, at(thick, cell) + feed));
                }
            } else if (hour != STILL) {
                blow(down(hour), on(hour));
            }
        }

        private void blow(int down, int on) {
            copyRow(thick, was);
            for (int row = 0; row < rows; row++) {
                for (int column = 0; column < columns; column++) {
                    int from = row * columns + column;
                    int to = cellAt(row + down, column + on);
                    int over = to == NO_CELL ? 0 : at(was, to);
                    if (over < at(was, from)) {
                        put(thick, from, at(thick, from) - 1);
                        put(thick, to, at(thick, to) + 1);
                    }
                }
            }
        }

        /** Why it can not be done, or 0: then it is. */
        int act(int cell, int sign) {
            int has = at(thick, cell);
            if (sign == '*') {
                light(cell, 1 - at(lamp, cell));
                return 0;
            }
            if (sign == '+') {
                put(thick, cell, Math.min(THICKEST, has + 1));
                return has >= THICKEST ? 2 : 0;
            }
            int number = sign - '0';
            put(thick, cell, Math.min(number, has));
            return has <= number ? 1 : 0;
        }

        int lampBits() {
            int bits = 0;
            for (int cell = 0; cell < cells; cell++) {
                bits |= at(lamp, cell) << cell;
            }
            return bits;
        }

        int together() {
            int sum = 0;
            for (int cell = 0; cell < cells; cell++) {
                sum += at(thick, cell);
            }
            return sum;
        }

        int thickest() {
            int most = 0;
            for (int cell = 0; cell < cells; cell++) {
                most = Math.max(most, at(thick, cell));
            }
            return most;
        }

        int wants(int shape, int cell) {
            return at(wanted, shape * MOST_CELLS + cell);
        }

        int wishes(int shape) {
            int count = 0;
            for (int cell = 0; cell < cells; cell++) {
                count += wants(shape, cell) == NOT_WANTED ? 0 : 1;
            }
            return count;
        }

        boolean isWanted(int cell) {
            boolean some = false;
            for (int shape = 0; shape < SHAPES; shape++) {
                some = some || wants(shape, cell) != NOT_WANTED;
            }
            return some;
        }

        /** So of no shape at all, too: it wants nothing that is not so. */
        boolean holds(int shape) {
            return acts(shape, 0, 0) == 0;
        }

        boolean someShapeFell() {
            boolean fell = false;
            for (int shape = 0; shape < SHAPES; shape++) {
                fell = fell || !holds(shape);
            }
            return fell;
        }

        /** How many acts would carve a shape so many rows down and columns on; too many, where it leaves the bank. */
        int acts(int shape, int down, int on) {
            int sum = 0;
            for (int row = 0; row < rows; row++) {
                for (int column = 0; column < columns; column++) {
                    int number = wants(shape, row * columns + column);
                    if (number != NOT_WANTED) {
                        sum += actsAt(cellAt(row + down, column + on), number);
                    }
                }
            }
            return sum;
        }

        private int actsAt(int cell, int number) {
            if (cell == NO_CELL) {
                return TOO_FAR;
            }
            int has = at(thick, cell);
            return has > number + slack ? 1 : Math.max(0, number - slack - has);
        }

        boolean neverTogether(int one, int other) {
            boolean never = false;
            for (int cell = 0; cell < cells; cell++) {
                int first = wants(one, cell);
                int second = wants(other, cell);
                boolean both = first != NOT_WANTED && second != NOT_WANTED;
                never = never || both && Math.abs(first - second) > 2 * slack;
            }
            return never;
        }

        boolean sightsHold() {
            boolean all = true;
            for (int i = 0; i < sights; i++) {
                all = all && at(thick, at(sightCells, i)) == at(sightNumbers, i);
            }
            return all;
        }
    }

    /** The signs on the pad, and what was found when the night was last played. */
    private static final class Night {
        final int[] signs = new int[MOST_SIGNS];
        int count;
        int parts;
        int halted;
        int why;
        int fallen;

        int firstFault(Bank bank) {
            int place = 0;
            while (place < count) {
                int sign = at(signs, place);
                if (hourOf(sign) != NONE) {
                    place++;
                } else if (bank == null || !bank.has(sign - 'a')) {
                    return place;
                } else if (place + 1 == count) {
                    return count;
                } else if (!isAct(at(signs, place + 1))) {
                    return place + 1;
                } else {
                    place += 2;
                }
            }
            return NONE;
        }

        private static boolean isAct(int sign) {
            return sign == '+' || sign == '*' || isWithin(sign, '0', '9');
        }

        boolean isHoursAlone() {
            boolean alone = true;
            for (int i = 0; i < count; i++) {
                alone = alone && hourOf(at(signs, i)) != NONE;
            }
            return alone;
        }

        void passHours(Bank bank) {
            for (int i = 0; i < count && bank != null; i++) {
                bank.pass(hourOf(at(signs, i)));
            }
        }

        /** For a night without a fault, from the one bank on, in the other; ends at the first part that can not be. */
        void play(Bank from, Bank bank, int watched) {
            if (from == null || bank == null) {
                return;
            }
            bank.copyAll(from);
            parts = 0;
            halted = NONE;
            why = NONE;
            fallen = NONE;
            int place = 0;
            while (place < count && halted == NONE) {
                int sign = at(signs, place);
                int hour = hourOf(sign);
                if (hour != NONE) {
                    bank.pass(hour);
                    place++;
                } else {
                    int reason = bank.act(sign - 'a', at(signs, place + 1));
                    halted = reason == 0 ? NONE : parts;
                    why = reason == 0 ? NONE : reason;
                    place += 2;
                }
                if (watched != NOBODY_WATCHED && fallen == NONE && !bank.holds(watched)) {
                    fallen = parts;
                }
                parts++;
            }
        }
    }
}
