import java.util.Arrays;

/**
 * A field of mirrors before a tower. The public methods look at what they are given and hold the
 * trouble of the latest call that may be refused; the classes inside trust what they are handed.
 */
public final class MirrorTower {
    public static final int NONE = -1;

    private static final int SIDE = 15;
    private static final int TOWER_X = 7;
    private static final int TOWER_Y = 0;
    private static final int MIRRORS = 40;
    private static final int CELLS = 4;
    private static final int HOURS = 24;
    private static final int SHOTS = 12;

    private static final int MOST_STEP = 2;
    private static final int MOST_HEIGHT = 9;
    private static final int MOST_LIMIT = 10_000;
    private static final int MOST_WIND = 99;
    private static final int MOST_PRICE = 999;
    private static final int MOST_DUST = 20;

    private static final int FINE = 0;
    private static final int NONE_SUCH = 1;
    private static final int BAD_NUMBER = 2;
    private static final int NO_ROOM = 3;
    private static final int NOT_SO = 4;

    private final Field field;
    private final Face cells;
    private final Store store;
    private final Shots shots;
    private int trouble;

    public MirrorTower() {
        field = new Field();
        cells = new Face(field);
        store = new Store(field, cells);
        shots = new Shots();
        trouble = FINE;
    }

    public int mirror(int x, int y) {
        if (!isWithin(x, 0, SIDE - 1) || !isWithin(y, 0, SIDE - 1)) {
            return refused(BAD_NUMBER);
        }
        boolean isTower = x == TOWER_X && y == TOWER_Y;
        if (isTower || field.isTaken(x, y)) {
            return refused(NOT_SO);
        }
        if (field.size() >= MIRRORS) {
            return refused(NO_ROOM);
        }
        return granted(field.place(x, y));
    }

    public boolean sun(int hour, int dx, int dy, int height) {
        boolean isStep = isWithin(dx, -MOST_STEP, MOST_STEP)
                && isWithin(dy, -MOST_STEP, MOST_STEP)
                && (dx != 0 || dy != 0);
        if (!isHour(hour) || !isStep || !isWithin(height, 0, MOST_HEIGHT)) {
            return denied(BAD_NUMBER);
        }
        field.setSun(hour, dx, dy, height);
        return allowed();
    }

    public boolean limit(int cell, int v) {
        if (!isCell(cell)) {
            return denied(NONE_SUCH);
        }
        if (!isWithin(v, 0, MOST_LIMIT)) {
            return denied(BAD_NUMBER);
        }
        cells.setLimit(cell, v);
        return allowed();
    }

    public boolean wind(int hour, int v) {
        if (!isHour(hour) || !isWithin(v, 0, MOST_WIND)) {
            return denied(BAD_NUMBER);
        }
        field.setWind(hour, v);
        return allowed();
    }

    public boolean price(int hour, int v) {
        if (!isHour(hour) || !isWithin(v, 0, MOST_PRICE)) {
            return denied(BAD_NUMBER);
        }
        store.setPrice(hour, v);
        return allowed();
    }

    public boolean dust(int v) {
        if (!isWithin(v, 0, MOST_DUST)) {
            return denied(BAD_NUMBER);
        }
        field.setDust(v);
        return allowed();
    }

    public int shaded(int mirror, int hour, boolean blocked) {
        if (!isMirror(mirror) || !isHour(hour)) {
            return NONE;
        }
        return blocked ? field.blockersOf(mirror) : field.shadersOf(mirror, hour);
    }

    public int power(int mirror, int hour) {
        if (!isMirror(mirror) || !isHour(hour)) {
            return NONE;
        }
        return field.powerOf(mirror, hour, 0);
    }

    public int stowed(int hour) {
        if (!isHour(hour)) {
            return NONE;
        }
        return field.isStowed(hour) ? 1 : 0;
    }

    public int soil(int mirror) {
        return isMirror(mirror) ? field.soilOf(mirror, 0) : NONE;
    }

    public int wash(int many) {
        if (!isWithin(many, 1, MIRRORS)) {
            return refused(BAD_NUMBER);
        }
        return granted(field.washMost(many));
    }

    public int aim(int hour) {
        if (!isHour(hour)) {
            return refused(BAD_NUMBER);
        }
        return granted(cells.keepAims(hour));
    }

    public int aimed(int mirror) {
        return isMirror(mirror) ? cells.keptCellOf(mirror) : NONE;
    }

    public int face(int cell) {
        return isCell(cell) ? cells.keptPowerAt(cell) : NONE;
    }

    public int best(int hour) {
        if (!isHour(hour)) {
            return refused(BAD_NUMBER);
        }
        return granted(cells.bestHeat(hour));
    }

    public int comes(int hour) {
        int now = store.hourNow();
        if (!isWithin(hour, now, HOURS - 1)) {
            return NONE;
        }
        return cells.aimAll(hour, hour - now);
    }

    public int plan() {
        return store.layPlan();
    }

    public int runs(int hour) {
        return isHour(hour) ? store.plannedRun(hour) : NONE;
    }

    public int step(boolean run) {
        int gain = store.passHour(run);
        return gain == NONE ? refused(BAD_NUMBER) : granted(gain);
    }

    public int earned() {
        return store.earnedInAll();
    }

    public int shot(int low, int high, int hits) {
        long bits = ((long) high << 32) | (low & 0xFFFF_FFFFL);
        if (!isWithin(hits, 0, Math.min(MIRRORS, Long.bitCount(bits)))) {
            return refused(BAD_NUMBER);
        }
        if (bits == 0 || bits >>> field.size() != 0) {
            return refused(NOT_SO);
        }
        if (shots.size() >= SHOTS) {
            return refused(NO_ROOM);
        }
        return granted(shots.note(bits, hits));
    }

    public int forget() {
        return shots.drop();
    }

    public int agree() {
        return shots.setsOf(field.size());
    }

    public int stuck(int mirror) {
        return isMirror(mirror) ? shots.verdictOn(mirror, field.size()) : NONE;
    }

    public int unsure() {
        return shots.unsureOf(field.size());
    }

    public int count(int what) {
        switch (what) {
            case 0:
                return field.size();
            case 1:
                return store.hourNow();
            case 2:
                return store.unitsHeld();
            case 3:
                return store.isWarm() ? 1 : 0;
            case 4:
                return shots.size();
            case 5:
                return field.soilInAll();
            default:
                return NONE;
        }
    }

    public int trouble() {
        return trouble;
    }

    private boolean isMirror(int mirror) {
        return isWithin(mirror, 0, field.size() - 1);
    }

    private static boolean isHour(int hour) {
        return isWithin(hour, 0, HOURS - 1);
    }

    private static boolean isCell(int cell) {
        return isWithin(cell, 0, CELLS - 1);
    }

    private static boolean isWithin(int v, int least, int most) {
        return v >= least && v <= most;
    }

    private int granted(int answer) {
        trouble = FINE;
        return answer;
    }

    private int refused(int why) {
        trouble = why;
        return NONE;
    }

    private boolean allowed() {
        trouble = FINE;
        return true;
    }

    private boolean denied(int why) {
        trouble = why;
        return false;
    }

    /** Where the mirrors stand, and what sun, wind and soil leave of their power. */
    private static final class Field {
        private static final int MOST_SOIL = 90;
        private static final int FIRST_DUST = 1;
        private static final int CALM = 50;

        /** Bit x of row y: a mirror stands there. */
        private final int[] taken;
        private final int[] xs;
        private final int[] ys;
        private final int[] blockers;
        private final int[] soils;
        private int size;

        private final int[] stepsX;
        private final int[] stepsY;
        private final int[] heights;
        private final int[] winds;
        private int dustAnHour;

        Field() {
            taken = new int[SIDE];
            xs = new int[MIRRORS];
            ys = new int[MIRRORS];
            blockers = new int[MIRRORS];
            soils = new int[MIRRORS];
            stepsX = new int[HOURS];
            stepsY = new int[HOURS];
            heights = new int[HOURS];
            winds = new int[HOURS];
            dustAnHour = FIRST_DUST;
        }

        int size() {
            return size;
        }

        boolean isTaken(int x, int y) {
            return (taken[y] >> x & 1) != 0;
        }

        /** Mirrors never leave, so who blocks whom is settled as each one comes. */
        int place(int x, int y) {
            int mirror = size;
            xs[mirror] = x;
            ys[mirror] = y;
            taken[y] |= 1 << x;
            size++;
            for (int other = 0; other < mirror; other++) {
                if (isBetween(other, mirror)) {
                    blockers[mirror]++;
                }
                if (isBetween(mirror, other)) {
                    blockers[other]++;
                }
            }
            return mirror;
        }

        private boolean isBetween(int near, int far) {
            int nearX = xs[near] - TOWER_X;
            int nearY = ys[near] - TOWER_Y;
            int farX = xs[far] - TOWER_X;
            int farY = ys[far] - TOWER_Y;
            if (nearX * farY != nearY * farX) {
                return false;
            }
            int along = nearX * farX + nearY * farY;
            return along > 0 && along < farX * farX + farY * farY;
        }

        void setSun(int hour, int dx, int dy, int height) {
            stepsX[hour] = dx;
            stepsY[hour] = dy;
            heights[hour] = height;
        }

        void setWind(int hour, int v) {
            winds[hour] = v;
        }

        void setDust(int v) {
            dustAnHour = v;
        }

        int blockersOf(int mirror) {
            return blockers[mirror];
        }

        int shadersOf(int mirror, int hour) {
            if (heights[hour] == 0) {
                return 0;
            }
            int x = xs[mirror];
            int y = ys[mirror];
            int shaders = 0;
            for (int steps = 10 - heights[hour]; steps > 0; steps--) {
                x += stepsX[hour];
                y += stepsY[hour];
                if (x < 0 || x >= SIDE || y < 0 || y >= SIDE) {
                    return shaders;
                }
                shaders += taken[y] >> x & 1;
            }
            return shaders;
        }

        boolean isStowed(int hour) {
            return winds[hour] > CALM || (hour + 1 < HOURS && winds[hour + 1] > CALM);
        }

        /** The power that a mirror has in an hour when so many hours more have soiled it. */
        int powerOf(int mirror, int hour, int hoursMore) {
            if (heights[hour] == 0 || isStowed(hour)) {
                return 0;
            }
            int clean = 10 * heights[hour] + 10;
            int bare = Math.max(0, clean - soilOf(mirror, hoursMore));
            // One that both shades and blocks takes its half twice: "each time anew".
            return bare >> (shadersOf(mirror, hour) + blockers[mirror]);
        }

        int soilOf(int mirror, int hoursMore) {
            return Math.min(MOST_SOIL, soils[mirror] + hoursMore * dustAnHour);
        }

        int soilInAll() {
            int sum = 0;
            for (int mirror = 0; mirror < size; mirror++) {
                sum += soils[mirror];
            }
            return sum;
        }

        void growSoil() {
            for (int mirror = 0; mirror < size; mirror++) {
                soils[mirror] = soilOf(mirror, 1);
            }
        }

        int washMost(int many) {
            int gone = 0;
            for (int washed = Math.min(many, size); washed > 0; washed--) {
                int mirror = mostSoiled();
                gone += soils[mirror];
                soils[mirror] = 0;
            }
            return gone;
        }

        private int mostSoiled() {
            int most = 0;
            for (int mirror = 1; mirror < size; mirror++) {
                if (soils[mirror] > soils[most]) {
                    most = mirror;
                }
            }
            return most;
        }
    }

    /** The cells of the tower's face, and which mirror aims at which of them. */
    private static final class Face {
        private static final int FIRST_LIMIT = 500;
        private static final int NO_CELL = -2;
        private static final int FEW = 7;
        private static final int SETS_OF_FEW = 1 << FEW;

        private final Field field;
        private final int[] limits;

        /** The aims that were reckoned last, for whatever call. */
        private final int[] order;
        private final int[] powers;
        private final int[] cellOf;
        private final int[] left;

        /** What the latest aim() told. */
        private final int[] keptCells;
        private final int[] keptPowers;
        private int keptSize;

        /** Of sets of the first few mirrors, as bits: their power, and whether the cells hold them. */
        private final int[] setPowers;
        private final boolean[] fits;

        Face(Field field) {
            this.field = field;
            limits = new int[CELLS];
            Arrays.fill(limits, FIRST_LIMIT);
            order = new int[MIRRORS];
            powers = new int[MIRRORS];
            cellOf = new int[MIRRORS];
            left = new int[CELLS];
            keptCells = new int[MIRRORS];
            keptPowers = new int[CELLS];
            setPowers = new int[SETS_OF_FEW];
            fits = new boolean[SETS_OF_FEW];
        }

        void setLimit(int cell, int v) {
            limits[cell] = v;
        }

        int keepAims(int hour) {
            int heat = aimAll(hour, 0);
            keptSize = field.size();
            System.arraycopy(cellOf, 0, keptCells, 0, keptSize);
            for (int cell = 0; cell < CELLS; cell++) {
                keptPowers[cell] = limits[cell] - left[cell];
            }
            return heat;
        }

        int keptCellOf(int mirror) {
            return mirror < keptSize ? keptCells[mirror] : NONE;
        }

        int keptPowerAt(int cell) {
            return keptPowers[cell];
        }

        /** The heat of an hour when so many hours more have soiled the mirrors. */
        int aimAll(int hour, int hoursMore) {
            readPowers(hour, hoursMore);
            rank();
            System.arraycopy(limits, 0, left, 0, CELLS);
            int heat = 0;
            for (int turn = 0; turn < field.size(); turn++) {
                int mirror = order[turn];
                int cell = roomiestCell();
                if (powers[mirror] <= left[cell]) {
                    cellOf[mirror] = cell;
                    left[cell] -= powers[mirror];
                    heat += powers[mirror];
                } else {
                    cellOf[mirror] = NO_CELL;
                }
            }
            return heat;
        }

        private int roomiestCell() {
            int most = 0;
            for (int cell = 1; cell < CELLS; cell++) {
                if (left[cell] > left[most]) {
                    most = cell;
                }
            }
            return most;
        }

        private void readPowers(int hour, int hoursMore) {
            for (int mirror = 0; mirror < field.size(); mirror++) {
                powers[mirror] = field.powerOf(mirror, hour, hoursMore);
            }
        }

        /** Puts the mirrors in order of power; of as much power the least number stays ahead. */
        private void rank() {
            for (int mirror = 0; mirror < field.size(); mirror++) {
                int turn = mirror;
                while (turn > 0 && powers[order[turn - 1]] < powers[mirror]) {
                    order[turn] = order[turn - 1];
                    turn--;
                }
                order[turn] = mirror;
            }
        }

        int bestHeat(int hour) {
            readPowers(hour, 0);
            rank();
            int few = Math.min(FEW, field.size());
            int sets = 1 << few;
            addUpSets(few);
            for (int set = 0; set < sets; set++) {
                fits[set] = set == 0;
            }
            for (int cell = 0; cell < CELLS; cell++) {
                widen(sets, limits[cell]);
            }
            int most = 0;
            for (int set = 0; set < sets; set++) {
                if (fits[set]) {
                    most = Math.max(most, setPowers[set]);
                }
            }
            return most;
        }

        private void addUpSets(int few) {
            setPowers[0] = 0;
            for (int turn = 0; turn < few; turn++) {
                int alone = 1 << turn;
                for (int set = 0; set < alone; set++) {
                    setPowers[set | alone] = setPowers[set] + powers[order[turn]];
                }
            }
        }

        /**
         * One cell more. Greater sets come first: a set is judged by lesser ones alone, and those
         * must still tell what the cells ahead of this one hold.
         */
        private void widen(int sets, int limit) {
            for (int set = sets - 1; set > 0; set--) {
                for (int part = set; part > 0 && !fits[set]; part = (part - 1) & set) {
                    fits[set] = setPowers[part] <= limit && fits[set ^ part];
                }
            }
        }
    }

    /** The hours going by, the heat that is stored, and the best that can be sold of it. */
    private static final class Store {
        private static final int UNIT = 100;
        private static final int MOST_UNITS = 200;
        private static final int UNITS_SOLD = 5;
        private static final int UNITS_TO_WARM = 2;
        private static final int FIRST_PRICE = 10;

        private final Field field;
        private final Face cells;
        private final int[] prices;
        private int now;
        private int units;
        private boolean warm;
        private int earnings;

        /** What is still to be earned from an hour on, by the units held and warmth ahead of it. */
        private int[] gains;
        private int[] laterGains;
        /** Bit h, by the same: whether it is best to run in hour h. */
        private final int[] choices;
        private final int[] unitsIn;
        /** The most units that can be held ahead of an hour; more needn't be looked at. */
        private final int[] mostHeld;

        /** The latest plan: bit h tells of hour h, from its first hour on. */
        private int planned;
        private int plannedFrom;

        Store(Field field, Face cells) {
            this.field = field;
            this.cells = cells;
            prices = new int[HOURS];
            Arrays.fill(prices, FIRST_PRICE);
            gains = new int[2 * (MOST_UNITS + 1)];
            laterGains = new int[2 * (MOST_UNITS + 1)];
            choices = new int[2 * (MOST_UNITS + 1)];
            unitsIn = new int[HOURS];
            mostHeld = new int[HOURS];
            plannedFrom = HOURS;
        }

        void setPrice(int hour, int v) {
            prices[hour] = v;
        }

        int hourNow() {
            return now;
        }

        int unitsHeld() {
            return units;
        }

        boolean isWarm() {
            return warm;
        }

        int earnedInAll() {
            return earnings;
        }

        int passHour(boolean run) {
            int held = filled(units, cells.aimAll(now, 0) / UNIT);
            int need = run ? needed(warm) : 0;
            if (held < need) {
                return NONE;
            }
            int gain = run ? gainOf(now) : 0;
            units = held - need;
            warm = run;
            earnings += gain;
            field.growSoil();
            now = (now + 1) % HOURS;
            return gain;
        }

        private static int filled(int held, int more) {
            return Math.min(MOST_UNITS, held + more);
        }

        private static int needed(boolean warm) {
            return warm ? UNITS_SOLD : UNITS_SOLD + UNITS_TO_WARM;
        }

        private int gainOf(int hour) {
            return UNITS_SOLD * prices[hour];
        }

        int plannedRun(int hour) {
            return hour < plannedFrom ? NONE : planned >> hour & 1;
        }

        int layPlan() {
            lookAhead();
            Arrays.fill(gains, 0);
            Arrays.fill(choices, 0);
            for (int hour = HOURS - 1; hour >= now; hour--) {
                int[] later = gains;
                gains = laterGains;
                laterGains = later;
                weighHour(hour);
            }
            followChoices();
            return gains[stateOf(units, warm)];
        }

        private void lookAhead() {
            int most = units;
            for (int hour = now; hour < HOURS; hour++) {
                mostHeld[hour] = most;
                unitsIn[hour] = cells.aimAll(hour, hour - now) / UNIT;
                most = filled(most, unitsIn[hour]);
            }
        }

        private void weighHour(int hour) {
            for (int held = 0; held <= mostHeld[hour]; held++) {
                weigh(hour, held, false);
                weigh(hour, held, true);
            }
        }

        /** Runs only where that is truly better: of as good plans the one that waits is due. */
        private void weigh(int hour, int heldAhead, boolean warmAhead) {
            int state = stateOf(heldAhead, warmAhead);
            int held = filled(heldAhead, unitsIn[hour]);
            int need = needed(warmAhead);
            gains[state] = laterGains[stateOf(held, false)];
            if (held >= need) {
                int gain = gainOf(hour) + laterGains[stateOf(held - need, true)];
                if (gain > gains[state]) {
                    gains[state] = gain;
                    choices[state] |= 1 << hour;
                }
            }
        }

        private void followChoices() {
            planned = 0;
            plannedFrom = now;
            int held = units;
            boolean ran = warm;
            for (int hour = now; hour < HOURS; hour++) {
                boolean run = (choices[stateOf(held, ran)] >> hour & 1) != 0;
                held = filled(held, unitsIn[hour]);
                if (run) {
                    held -= needed(ran);
                    planned |= 1 << hour;
                }
                ran = run;
            }
        }

        private static int stateOf(int held, boolean warm) {
            return 2 * held + (warm ? 1 : 0);
        }
    }

    /** Shots, kept as sums: the marks of the stuck mirrors together must make what is missing. */
    private static final class Shots {
        /** Two bits a shot hold 0, 1 and 2 misses, and 3 for more than two stuck ones can make. */
        private static final int BITS_A_SHOT = 2;
        private static final int TOO_MANY = 3;

        private final int[] marks;
        private int missing;
        private int size;

        /** How many sets agree, and in how many of them each mirror is. */
        private int sets;
        private final int[] setsWith;

        Shots() {
            marks = new int[MIRRORS];
            setsWith = new int[MIRRORS];
        }

        int size() {
            return size;
        }

        int note(long bits, int hits) {
            int place = BITS_A_SHOT * size;
            for (int mirror = 0; mirror < MIRRORS; mirror++) {
                marks[mirror] |= (int) (bits >>> mirror & 1) << place;
            }
            missing |= Math.min(TOO_MANY, Long.bitCount(bits) - hits) << place;
            size++;
            return size - 1;
        }

        int drop() {
            int dropped = size;
            Arrays.fill(marks, 0);
            missing = 0;
            size = 0;
            return dropped;
        }

        int setsOf(int mirrors) {
            tally(mirrors);
            return sets;
        }

        int verdictOn(int mirror, int mirrors) {
            tally(mirrors);
            if (!isSure(mirror)) {
                return 2;
            }
            return setsWith[mirror] == 0 ? 0 : 1;
        }

        int unsureOf(int mirrors) {
            tally(mirrors);
            int unsure = 0;
            for (int mirror = 0; mirror < mirrors; mirror++) {
                if (!isSure(mirror)) {
                    unsure++;
                }
            }
            return unsure;
        }

        private boolean isSure(int mirror) {
            return sets > 0 && (setsWith[mirror] == 0 || setsWith[mirror] == sets);
        }

        private void tally(int mirrors) {
            Arrays.fill(setsWith, 0);
            sets = missing == 0 ? 1 : 0;
            for (int one = 0; one < mirrors; one++) {
                if (marks[one] == missing) {
                    sets++;
                    setsWith[one]++;
                }
                for (int other = 0; other < one; other++) {
                    if (marks[one] + marks[other] == missing) {
                        sets++;
                        setsWith[one]++;
                        setsWith[other]++;
                    }
                }
            }
        }
    }
}
