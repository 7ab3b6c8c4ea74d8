import java.util.Arrays;

/** A square of cells on which water lies, flows and dries; every puddle on it is a state. */
public final class PuddleStates {
    public static final int BAD = -1, NO = -2, FULL = -3, NONE = -4;

    private static final int OPEN = 0, SHADE = 1, DRAIN = 2, KERB = 3, PUMP = 4;
    private static final int LEAST_SIDE = 2, MOST_SIDE = 6, FIRST_ROWS = 4, FIRST_COLUMNS = 5;
    private static final int MOST_CELLS = MOST_SIDE * MOST_SIDE;
    private static final int SIDES = 4;
    private static final int MOST_HEIGHT = 20, FIRST_HEIGHT = 5, MOST_FIRST_DROPS = 20, MOST_DROPS = 60;
    private static final int MOST_LETTERS = 200, LEAST_LETTER = 32, MOST_LETTER = 126;
    private static final int MOST_RAIN = 9, MOST_ASKED_RAIN = 30, MOST_SHINE = 20;
    private static final int MOST_BEHIND = 40, MOST_DRY = 60, MOST_PART = 60, MOST_WAY = 40;
    private static final int MOST_UNDONE = 8, MOST_KEPT = 2, MOST_RINGS = 6;
    private static final int MOST_SUN = 6, TENTHS = 10;
    private static final int MOST_YEAR = 9999, MOST_DAYS = 30;
    private static final int ALWAYS_APART = 100, ALL_RAINS = 0x7FFFFFFF;
    // Each drop that flows lowers the sum of all levels squared, or is gone, so far fewer rounds are ever needed.
    private static final int MOST_ROUNDS = 1000000;
    private static final String FIRST_TEXT =
        "s4,5;h6,2;h7,3;h8,6;h11,1;h12,2;h3,4;h17,3;k4,1;k19,2;k9,3;k11,4;w7,3;";

    private final Text text = new Text();
    private final Ground ground = new Ground();
    private final Water now = new Water();
    /** Filled anew by each call that asks for what is not now, so that no call makes objects. */
    private final Ground otherGround = new Ground();
    private final Water later = new Water();
    private final States states = new States();
    private final Past undone = new Past();
    private final Past kept = new Past();
    private final int[] ringCell = new int[MOST_RINGS];
    private final int[] ringDrops = new int[MOST_RINGS];
    private int rings = 0;

    public PuddleStates() {
        for (int i = 0; i < FIRST_TEXT.length(); i++) {
            text.add(FIRST_TEXT.charAt(i));
        }
        layText();
        text.empty();
    }

    // ---- squares

    public int write(int letter) {
        if (letter < LEAST_LETTER || letter > MOST_LETTER) {
            return BAD;
        }
        if (text.length >= MOST_LETTERS) {
            return FULL;
        }
        text.add((char) letter);
        return text.length;
    }

    public int wipe() {
        int was = text.length;
        text.empty();
        return was;
    }

    public int fault() {
        return text.readInto(otherGround, later);
    }

    public int lay() {
        if (text.length == 0 || !layText()) {
            return NO;
        }
        return ground.cells;
    }

    public int cell(int x, int what) {
        if (!ground.holds(x) || !isFrom(what, 0, 5)) {
            return BAD;
        }
        if (what == 0) {
            return now.height[x];
        }
        if (what == 1) {
            return ground.kind[x];
        }
        if (what == 2) {
            return now.drops[x];
        }
        states.map(ground, now);
        if (what == 3) {
            return states.stateOf(x);
        }
        return what == 4 ? states.sizeAt(x) : states.depthAt(x, now);
    }

    // ---- weather, boots

    public int rain(int k) {
        if (!isFrom(k, 1, MOST_RAIN)) {
            return BAD;
        }
        undone.push(now);
        now.pour(ground, k);
        return now.allDrops(ground);
    }

    public int shine(int n) {
        if (!isFrom(n, 1, MOST_SHINE)) {
            return BAD;
        }
        undone.push(now);
        now.passHours(ground, n);
        return now.hours;
    }

    public int boot(int x) {
        if (!ground.holds(x)) {
            return BAD;
        }
        if (now.drops[x] == 0) {
            return NO;
        }
        undone.push(now);
        now.stepInto(ground, x);
        return now.drops[x];
    }

    public int stone(int x, boolean dug) {
        if (!ground.holds(x)) {
            return BAD;
        }
        int height = now.height[x] + (dug ? -1 : 1);
        if (!isFrom(height, 0, MOST_HEIGHT) || !ground.takesRain(x)) {
            return NO;
        }
        undone.push(now);
        now.height[x] = height;
        now.flow(ground);
        return height;
    }

    public int undo() {
        if (undone.many == 0) {
            return NO;
        }
        undone.pop(now);
        return undone.many;
    }

    // ---- what comes

    public int behind(int n, int x, int what) {
        if (!isFrom(n, 0, MOST_BEHIND) || !ground.holds(x) || !isFrom(what, 0, 1)) {
            return BAD;
        }
        later.copyFrom(now);
        later.passHours(ground, n);
        if (what == 0) {
            return later.drops[x];
        }
        states.map(ground, later);
        return states.stateOf(x);
    }

    public int dry(int what) {
        if (!isFrom(what, 0, 1)) {
            return BAD;
        }
        later.copyFrom(now);
        int last = NONE;
        for (int hours = 0; hours <= MOST_DRY; hours++) {
            int wet = later.firstWet(ground);
            if (wet == NONE) {
                return what == 0 ? hours : last;
            }
            last = wet;
            later.passHour(ground);
        }
        return NONE;
    }

    public int join(int x, int y) {
        if (!areTwo(x, y)) {
            return BAD;
        }
        for (int k = 0; k <= MOST_ASKED_RAIN; k++) {
            if (!apartBehindRain(ground, x, y, k)) {
                return k;
            }
        }
        return NONE;
    }

    public int part(int x, int y) {
        if (!areTwo(x, y)) {
            return BAD;
        }
        states.map(ground, now);
        if (states.apart(x, y)) {
            return NO;
        }
        later.copyFrom(now);
        for (int hours = 1; hours <= MOST_PART; hours++) {
            later.passHour(ground);
            states.map(ground, later);
            if (states.apart(x, y)) {
                return hours;
            }
        }
        return NONE;
    }

    public int way(int a, int b) {
        if (!ground.holds(a) || !ground.holds(b)) {
            return BAD;
        }
        if (now.drops[a] == 0) {
            return NONE;
        }
        later.copyFrom(now);
        long here = 1L << a;
        for (int hours = 0; hours <= MOST_WAY; hours++) {
            if ((here >> b & 1) == 1) {
                return hours;
            }
            here = ground.withBeside(here) & later.wetBits(ground);
            later.passHour(ground);
            here &= later.wetBits(ground);
        }
        return NONE;
    }

    public int kerb(int x, int y, int k) {
        if (!areTwo(x, y) || !isFrom(k, 0, MOST_RAIN)) {
            return BAD;
        }
        if (apartBehindRain(ground, x, y, k)) {
            return ALWAYS_APART;
        }
        for (int c = 0; c < ground.cells && c < MOST_CELLS; c++) {
            if (mayBeKerb(c, x, y)) {
                otherGround.copyFrom(ground);
                otherGround.makeKerb(c);
                if (apartBehindRain(otherGround, x, y, k)) {
                    return c;
                }
            }
        }
        return NONE;
    }

    // ---- rings, skies

    public int ring(int x, int v) {
        if (!ground.holds(x) || !isFrom(v, 0, MOST_DROPS)) {
            return BAD;
        }
        if (rings < 0 || rings >= MOST_RINGS) {
            return FULL;
        }
        ringCell[rings] = x;
        ringDrops[rings] = v;
        rings++;
        return rings;
    }

    public int forget() {
        int were = rings;
        rings = 0;
        return were;
    }

    public int rains() {
        if (rings == 0) {
            return ALL_RAINS;
        }
        int bits = 0;
        for (int k = 0; k <= MOST_ASKED_RAIN; k++) {
            later.copyFrom(now);
            later.pour(ground, k);
            if (ringsHold()) {
                bits |= 1 << k;
            }
        }
        return bits;
    }

    public int sky(int x, int part) {
        if (!ground.holds(x) || !isFrom(part, 0, 1)) {
            return BAD;
        }
        states.map(ground, now);
        if (states.stateOf(x) == NONE) {
            return NONE;
        }
        return lowestTerms(states.sizeAt(x), now.wetCells(ground), part);
    }

    // ---- odds, years

    public int sun(int x, int n, int odds, int part) {
        if (!ground.holds(x) || !isFrom(n, 0, MOST_SUN) || !isFrom(odds, 0, TENTHS) || !isFrom(part, 0, 1)) {
            return BAD;
        }
        int wet = wetBehindHours(x, n);
        int above = 0;
        for (int way = 0; way < 1 << n; way++) {
            int hours = Integer.bitCount(way);
            if ((wet >> hours & 1) == 1) {
                above += power(odds, hours) * power(TENTHS - odds, n - hours);
            }
        }
        return lowestTerms(above, power(TENTHS, n), part);
    }

    public int year(int z, int n, int what) {
        if (!isFrom(z, 0, MOST_YEAR) || !isFrom(n, 1, MOST_DAYS) || !isFrom(what, 0, 1)) {
            return BAD;
        }
        later.copyFrom(now);
        for (int day = 0; day < n; day++) {
            int draw = drawOf(z, day);
            later.pour(ground, draw % 4);
            later.passHours(ground, draw / 4 % 4);
        }
        if (what == 1) {
            return later.allDrops(ground);
        }
        states.map(ground, later);
        return states.many;
    }

    public int keep() {
        if (kept.many >= MOST_KEPT) {
            return FULL;
        }
        kept.push(now);
        return kept.many;
    }

    public int back() {
        if (kept.many == 0) {
            return NO;
        }
        kept.pop(now);
        undone.many = 0;
        return kept.many;
    }

    public int count(int what) {
        switch (what) {
            case 0: return ground.cells;
            case 1: return ground.rows;
            case 2: return now.wetCells(ground);
            case 3:
                states.map(ground, now);
                return states.many;
            case 4: return now.allDrops(ground);
            case 5: return now.hours;
            case 6: return rings;
            case 7: return undone.many;
            case 8: return kept.many;
            case 9: return text.length;
            default: return BAD;
        }
    }

    // ---- behind the face

    private static boolean isFrom(int number, int least, int most) {
        return number >= least && number <= most;
    }

    private boolean areTwo(int x, int y) {
        return ground.holds(x) && ground.holds(y) && x != y;
    }

    /** The text is read beside what stands, so that a fault in it changes nothing. */
    private boolean layText() {
        if (text.readInto(otherGround, later) != NONE) {
            return false;
        }
        ground.copyFrom(otherGround);
        now.copyFrom(later);
        now.flow(ground);
        rings = 0;
        undone.many = 0;
        kept.many = 0;
        return true;
    }

    private boolean apartBehindRain(Ground on, int x, int y, int k) {
        later.copyFrom(now);
        later.pour(on, k);
        states.map(on, later);
        return states.apart(x, y);
    }

    private boolean mayBeKerb(int c, int x, int y) {
        return ground.holds(c) && c != x && c != y && ground.kind[c] != KERB && now.drops[c] == 0;
    }

    private boolean ringsHold() {
        for (int i = 0; i < rings && i < MOST_RINGS; i++) {
            int x = ringCell[i];
            if (!ground.holds(x) || later.drops[x] != ringDrops[i]) {
                return false;
            }
        }
        return true;
    }

    /** Bit h (0 to n) is set if the cell has drops behind h hours. */
    private int wetBehindHours(int x, int n) {
        int bits = 0;
        later.copyFrom(now);
        for (int hours = 0; hours <= n; hours++) {
            if (ground.holds(x) && later.drops[x] > 0) {
                bits |= 1 << hours;
            }
            later.passHour(ground);
        }
        return bits;
    }

    private static int lowestTerms(int above, int below, int part) {
        int common = commonDivisor(above, below);
        int asked = part == 0 ? above : below;
        return common > 1 ? asked / common : asked;
    }

    private static int commonDivisor(int a, int b) {
        // Two steps halve the numbers at least, so 64 are enough for any int.
        for (int i = 0; i < 64 && b != 0; i++) {
            int rest = a % b;
            a = b;
            b = rest;
        }
        return a;
    }

    private static int power(int base, int times) {
        int product = 1;
        for (int i = 0; i < times; i++) {
            product *= base;
        }
        return product;
    }

    private static int drawOf(int z, int day) {
        long x = 7919L * z + 6151L * day + 1;
        return (int) (x * x % 65521 / 8);
    }

    /** How the cells lie and of what kind they are. */
    private static final class Ground {
        int rows = 0;
        int columns = 0;
        int cells = 0;
        final int[] kind = new int[MOST_CELLS];
        /** For each cell those beside it: up, down, right, left; NONE where there is none or a kerb. */
        final int[] beside = new int[MOST_CELLS * SIDES];
        private final long[] besideBits = new long[MOST_CELLS];

        boolean holds(int x) {
            return x >= 0 && x < cells && x < MOST_CELLS;
        }

        /** False, and nothing changes, if there is no such square. */
        boolean shape(int newRows, int newColumns) {
            if (!isFrom(newRows, LEAST_SIDE, MOST_SIDE) || !isFrom(newColumns, LEAST_SIDE, MOST_SIDE)) {
                return false;
            }
            rows = newRows;
            columns = newColumns;
            cells = rows * columns;
            return true;
        }

        void makeOpen() {
            shape(FIRST_ROWS, FIRST_COLUMNS);
            Arrays.fill(kind, OPEN);
        }

        void makeKerb(int x) {
            if (holds(x)) {
                kind[x] = KERB;
                link();
            }
        }

        void copyFrom(Ground other) {
            rows = other.rows;
            columns = other.columns;
            cells = other.cells;
            System.arraycopy(other.kind, 0, kind, 0, MOST_CELLS);
            System.arraycopy(other.beside, 0, beside, 0, MOST_CELLS * SIDES);
            System.arraycopy(other.besideBits, 0, besideBits, 0, MOST_CELLS);
        }

        /** To be called when the shape or a kind has changed. */
        void link() {
            Arrays.fill(besideBits, 0);
            for (int row = 0; row < rows && row < MOST_SIDE; row++) {
                for (int column = 0; column < columns && column < MOST_SIDE; column++) {
                    int x = row * columns + column;
                    linkSide(x, 0, row - 1, column);
                    linkSide(x, 1, row + 1, column);
                    linkSide(x, 2, row, column + 1);
                    linkSide(x, 3, row, column - 1);
                }
            }
        }

        private void linkSide(int x, int side, int row, int column) {
            int at = x * SIDES + side;
            if (!holds(x) || at < 0 || at >= beside.length) {
                return;
            }
            beside[at] = walkable(row, column);
            if (beside[at] != NONE) {
                besideBits[x] |= 1L << beside[at];
            }
        }

        private int walkable(int row, int column) {
            if (row < 0 || row >= rows || column < 0 || column >= columns) {
                return NONE;
            }
            int x = row * columns + column;
            return holds(x) && kind[x] != KERB ? x : NONE;
        }

        /** The cell on a side (0 to 3) of a cell; NONE. */
        int cellBeside(int x, int side) {
            int at = x * SIDES + side;
            return at >= 0 && at < beside.length ? beside[at] : NONE;
        }

        /** Cell y is beside cell x if bit y is set. */
        long bitsBeside(int x) {
            return holds(x) ? besideBits[x] : 0;
        }

        /** Cells as bits: these and those beside them. */
        long withBeside(long these) {
            long all = these;
            for (int x = 0; x < cells && x < MOST_CELLS; x++) {
                if ((these >> x & 1) == 1) {
                    all |= besideBits[x];
                }
            }
            return all;
        }

        boolean takesRain(int x) {
            return holds(x) && kind[x] != KERB && kind[x] != DRAIN;
        }

        boolean isKind(int x, int asked) {
            return holds(x) && kind[x] == asked;
        }
    }

    /** How high the cells are, what lies in them, how many hours went by. */
    private static final class Water {
        final int[] height = new int[MOST_CELLS];
        final int[] drops = new int[MOST_CELLS];
        int hours = 0;
        /** While water flows: cells from which a drop may go, as bits; all others are known to keep theirs. */
        private long restless = 0;

        void makeDry() {
            Arrays.fill(height, FIRST_HEIGHT);
            Arrays.fill(drops, 0);
            hours = 0;
        }

        void copyFrom(Water other) {
            System.arraycopy(other.height, 0, height, 0, MOST_CELLS);
            System.arraycopy(other.drops, 0, drops, 0, MOST_CELLS);
            hours = other.hours;
        }

        int allDrops(Ground ground) {
            int sum = 0;
            for (int x = 0; x < ground.cells && x < MOST_CELLS; x++) {
                sum += drops[x];
            }
            return sum;
        }

        int wetCells(Ground ground) {
            int wet = 0;
            for (int x = 0; x < ground.cells && x < MOST_CELLS; x++) {
                if (drops[x] > 0) {
                    wet++;
                }
            }
            return wet;
        }

        /** Bit x is set if cell x has drops. */
        long wetBits(Ground ground) {
            long bits = 0;
            for (int x = 0; x < ground.cells && x < MOST_CELLS; x++) {
                if (drops[x] > 0) {
                    bits |= 1L << x;
                }
            }
            return bits;
        }

        int firstWet(Ground ground) {
            for (int x = 0; x < ground.cells && x < MOST_CELLS; x++) {
                if (drops[x] > 0) {
                    return x;
                }
            }
            return NONE;
        }

        void pour(Ground ground, int k) {
            for (int x = 0; x < ground.cells && x < MOST_CELLS; x++) {
                if (ground.takesRain(x)) {
                    drops[x] = Math.min(MOST_DROPS, drops[x] + k);
                }
            }
            flow(ground);
        }

        void passHours(Ground ground, int n) {
            for (int i = 0; i < n; i++) {
                passHour(ground);
            }
        }

        void passHour(Ground ground) {
            hours++;
            boolean shadeDries = hours % 2 == 0;
            for (int x = 0; x < ground.cells && x < MOST_CELLS; x++) {
                if (drops[x] > 0 && (shadeDries || !ground.isKind(x, SHADE))) {
                    drops[x]--;
                }
                if (ground.isKind(x, PUMP)) {
                    putDrop(ground, x);
                }
            }
            flow(ground);
        }

        void stepInto(Ground ground, int x) {
            for (int side = 0; side < SIDES; side++) {
                int to = ground.cellBeside(x, side);
                if (ground.holds(to) && ground.holds(x) && drops[x] > 0) {
                    drops[x]--;
                    putDrop(ground, to);
                }
            }
            flow(ground);
        }

        private void putDrop(Ground ground, int x) {
            if (ground.takesRain(x) && drops[x] < MOST_DROPS) {
                drops[x]++;
            }
        }

        void flow(Ground ground) {
            restless = wetBits(ground);
            for (int round = 0; restless != 0 && round < MOST_ROUNDS; round++) {
                for (int x = 0; x < ground.cells && x < MOST_CELLS; x++) {
                    if ((restless >> x & 1) == 1) {
                        flowFrom(ground, x);
                    }
                }
            }
        }

        private void flowFrom(Ground ground, int x) {
            int to = whereTo(ground, x);
            if (to == NONE) {
                restless &= ~(1L << x);
            } else {
                drops[x]--;
                putDrop(ground, to);
                restless |= ground.bitsBeside(x);
            }
        }

        private int whereTo(Ground ground, int x) {
            int first = x * SIDES;
            if (!ground.holds(x) || drops[x] <= 0 || first + SIDES > ground.beside.length) {
                return NONE;
            }
            int level = height[x] + drops[x];
            int best = NONE;
            int bestLevel = level;
            for (int i = first; i < first + SIDES; i++) {
                int to = ground.beside[i];
                if (to >= 0 && to < MOST_CELLS) {
                    int levelThere = height[to] + drops[to];
                    boolean lowEnough = levelThere <= level - 2 || ground.kind[to] == DRAIN;
                    if (lowEnough && levelThere < bestLevel) {
                        best = to;
                        bestLevel = levelThere;
                    }
                }
            }
            return best;
        }
    }

    /** Which states there are on a square; each is called by its lowest cell. */
    private static final class States {
        private final int[] state = new int[MOST_CELLS];
        /** Cells of the state being mapped whose neighbours are not yet looked at. */
        private final int[] waiting = new int[MOST_CELLS];
        private int waits = 0;
        private int cells = 0;
        int many = 0;

        void map(Ground ground, Water water) {
            Arrays.fill(state, NONE);
            cells = ground.cells;
            many = 0;
            for (int x = 0; x < ground.cells && x < MOST_CELLS; x++) {
                if (water.drops[x] > 0 && state[x] == NONE) {
                    many++;
                    spread(ground, water, x);
                }
            }
        }

        private void spread(Ground ground, Water water, int lowest) {
            waits = 0;
            claim(water, lowest, lowest);
            for (int i = 0; i < MOST_CELLS && waits > 0; i++) {
                waits--;
                int x = waiting[waits];
                for (int side = 0; side < SIDES; side++) {
                    claim(water, ground.cellBeside(x, side), lowest);
                }
            }
        }

        private void claim(Water water, int x, int lowest) {
            if (x >= 0 && x < MOST_CELLS && water.drops[x] > 0 && state[x] == NONE && waits < MOST_CELLS) {
                state[x] = lowest;
                waiting[waits] = x;
                waits++;
            }
        }

        int stateOf(int x) {
            return x >= 0 && x < cells && x < MOST_CELLS ? state[x] : NONE;
        }

        boolean apart(int x, int y) {
            return stateOf(x) == NONE || stateOf(x) != stateOf(y);
        }

        int sizeAt(int x) {
            int asked = stateOf(x);
            int size = 0;
            for (int c = 0; c < cells && asked != NONE; c++) {
                if (stateOf(c) == asked) {
                    size++;
                }
            }
            return size;
        }

        int depthAt(int x, Water water) {
            int asked = stateOf(x);
            int depth = 0;
            for (int c = 0; c < cells && c < MOST_CELLS && asked != NONE; c++) {
                if (state[c] == asked) {
                    depth = Math.max(depth, water.drops[c]);
                }
            }
            return depth;
        }
    }

    /** Waters of earlier, the latest on top; where there is no room for one more, the oldest gives way. */
    private static final class Past {
        private final int[] heights = new int[MOST_UNDONE * MOST_CELLS];
        private final int[] drops = new int[MOST_UNDONE * MOST_CELLS];
        private final int[] hours = new int[MOST_UNDONE];
        int many = 0;

        void push(Water water) {
            if (many >= MOST_UNDONE) {
                dropOldest();
            }
            if (many >= 0 && many < MOST_UNDONE) {
                System.arraycopy(water.height, 0, heights, many * MOST_CELLS, MOST_CELLS);
                System.arraycopy(water.drops, 0, drops, many * MOST_CELLS, MOST_CELLS);
                hours[many] = water.hours;
                many++;
            }
        }

        void pop(Water water) {
            if (many > 0 && many <= MOST_UNDONE) {
                many--;
                System.arraycopy(heights, many * MOST_CELLS, water.height, 0, MOST_CELLS);
                System.arraycopy(drops, many * MOST_CELLS, water.drops, 0, MOST_CELLS);
                water.hours = hours[many];
            }
        }

        private void dropOldest() {
            many = MOST_UNDONE - 1;
            System.arraycopy(heights, MOST_CELLS, heights, 0, many * MOST_CELLS);
            System.arraycopy(drops, MOST_CELLS, drops, 0, many * MOST_CELLS);
            System.arraycopy(hours, 1, hours, 0, many);
        }
    }

    /** The text and how it is read. */
    private static final class Text {
        private final char[] letters = new char[MOST_LETTERS];
        int length = 0;
        /** The place that is read next. */
        private int at = 0;

        void add(char letter) {
            if (length >= 0 && length < MOST_LETTERS) {
                letters[length] = letter;
                length++;
            }
        }

        void empty() {
            length = 0;
        }

        /** Makes of ground and water what the text tells: the place of the first fault; NONE. */
        int readInto(Ground ground, Water water) {
            ground.makeOpen();
            water.makeDry();
            at = 0;
            boolean onlySquares = true;
            for (int items = 0; at < length && items < MOST_LETTERS; items++) {
                int start = at;
                int letter = nextLetter();
                int first = nextNumber();
                boolean parted = skip(',');
                int second = nextNumber();
                boolean ended = skip(';');
                if (first < 0 || !parted || second < 0 || !ended) {
                    return start;
                }
                if (letter == 's' ? !onlySquares : !tellCell(ground, water, letter, first, second)) {
                    return start;
                }
                if (letter == 's' && !ground.shape(first, second)) {
                    return start;
                }
                onlySquares = onlySquares && letter == 's';
            }
            finish(ground, water);
            return NONE;
        }

        private static boolean tellCell(Ground ground, Water water, int letter, int x, int number) {
            if (!ground.holds(x)) {
                return false;
            }
            if (letter == 'h' && isFrom(number, 0, MOST_HEIGHT)) {
                water.height[x] = number;
                return true;
            }
            if (letter == 'k' && isFrom(number, OPEN, PUMP)) {
                ground.kind[x] = number;
                return true;
            }
            if (letter == 'w' && isFrom(number, 0, MOST_FIRST_DROPS)) {
                water.drops[x] = number;
                return true;
            }
            return false;
        }

        /** Only here, since a kind may be told behind the drops. */
        private static void finish(Ground ground, Water water) {
            ground.link();
            for (int x = 0; x < ground.cells && x < MOST_CELLS; x++) {
                if (!ground.takesRain(x)) {
                    water.drops[x] = 0;
                }
            }
        }

        /** The letter at the place that is read next; NONE behind the text. */
        private int peek() {
            return at >= 0 && at < length && at < MOST_LETTERS ? letters[at] : NONE;
        }

        private int nextLetter() {
            int letter = peek();
            at++;
            return letter;
        }

        private boolean skip(int letter) {
            boolean there = peek() == letter;
            if (there) {
                at++;
            }
            return there;
        }

        /** One figure or two; NONE if there is no figure. */
        private int nextNumber() {
            int number = nextFigure();
            int figure = number < 0 ? NONE : nextFigure();
            return figure < 0 ? number : number * TENTHS + figure;
        }

        private int nextFigure() {
            int letter = peek();
            if (!isFrom(letter, '0', '9')) {
                return NONE;
            }
            at++;
            return letter - '0';
        }
    }
}
