import java.util.Arrays;

/** Clean on the stand: programs, drives, laws, looks and winds, as ../shared/DOC.md tells them. */
public final class CleanStand {
    public static final int NONE = -1, UNKNOWN = -2, OUTSIDE = -3, NOT = -4, FULL = -5;

    private static final int DRIVES = 6, TICKS = 40, STAND = 0, ROAD = 1, SORTS = 2, STREETS = 4;
    private static final int MAPS = 4, CLASSES = 4, CLASS_WIDTH = 40, VERSIONS = 4, LANDS = 2;
    private static final int MOST_SPEED = 159, MOST_LOAD = 99, MOST_TURN = 9, MOST_HEIGHT = 30, MOST_HEAT = 60;
    private static final int MOST_DOSE = 60, MOST_CARS = 9999, MOST_FEE = 999, MOST_COST = 99;
    private static final int TIME = 0, WHEEL = 1, TURNED = 2, HEIGHT = 3, HEAT = 4, SPEED = 5, LOAD = 6, SOOT = 7;
    private static final int READINGS = 8, PARTING_TESTS = 16;
    private static final int TEXT_BYTES = 160, WRITE_BYTES = 8;
    private static final int PROGRAM_LINES = 6, LINE_TESTS = 4, LAW_LINES = 8, MOST_NUMBER = 999, MOST_DIGITS = 3;
    private static final int GRAM = 0, ROAD_LINE = 1, BAN = 2, ASK = 3;
    private static final int MEASURES = 20, MOST_AIR = 9999, QUESTIONS = 20;
    private static final int TANK = 0, TRAP = 1, PRICE = 2, WIND = 3;
    private static final int[] SETTINGS_AT_FIRST = {1000, 100, 1000, 0};
    private static final int[] LEAST_SETTINGS = {0, 20, 0, 0};
    private static final int[] MOST_SETTINGS = {9999, 999, 99999, 100};
    private static final int TURNED_BY_ONE = 4, SOOT_SHARE = 8, BURN_AIR = 20;
    private static final int MOST_LASTS = 9999, MOST_OWED = 999999999, BUYING_BACK = 4, MOST_HUNDREDTHS = 99999;
    private static final int MOST_MONTH = 200, MOST_MONTHS_AT_ONCE = 60, SPY_TURN = 64;

    private final Drive[] drives = new Drive[DRIVES];
    private final Program[] programs = new Program[VERSIONS];
    private final Law[] laws = new Law[LANDS];
    private final Text text = new Text();
    private final int[][] doses = new int[MAPS][CLASSES];
    private final int[] settings = new int[SETTINGS_AT_FIRST.length];
    private final int[] cars = new int[VERSIONS];
    private final int[] fees = new int[VERSIONS];
    private final Measures measures = new Measures();
    private final Questions questions = new Questions();
    private int month = 0;

    // What THE TEXT says is put here first, and changes places with what it replaces.
    private Program draftProgram = new Program();
    private Law draftLaw = new Law();

    // Rows that calls write anew and use again, so that no call makes an object.
    private final Outcome outcome = new Outcome();
    private final int[] readings = new int[READINGS];
    private final int[][] airOf = new int[VERSIONS][DRIVES];
    private final int[][] usedOf = new int[VERSIONS][DRIVES];
    private final int[] caughtBy = new int[DRIVES];
    private final int[] leastSets = new int[1 << DRIVES];

    public CleanStand() {
        for (int drive = 0; drive < DRIVES; drive++) {
            drives[drive] = new Drive();
        }
        for (int version = 0; version < VERSIONS; version++) {
            programs[version] = new Program();
        }
        for (int land = 0; land < LANDS; land++) {
            laws[land] = new Law();
        }
        System.arraycopy(SETTINGS_AT_FIRST, 0, settings, 0, settings.length);
    }

    // ---- drives, maps

    public int drive(int drive, int sort, int street) {
        if (!isBelow(drive, DRIVES) || !isBelow(street, STREETS)) {
            return UNKNOWN;
        }
        if (!isBelow(sort, SORTS)) {
            return OUTSIDE;
        }
        drives[drive].restart(sort, street);
        return 1;
    }

    public int tick(int drive, int speed, int load, int turn, int height, int heat) {
        if (!isBelow(drive, DRIVES)) {
            return UNKNOWN;
        }
        if (!isUpTo(speed, MOST_SPEED) || !isUpTo(load, MOST_LOAD) || turn < -MOST_TURN || turn > MOST_TURN
                || !isUpTo(height, MOST_HEIGHT) || !isUpTo(heat, MOST_HEAT)) {
            return OUTSIDE;
        }
        Drive driven = drives[drive];
        if (driven.length >= TICKS) {
            return FULL;
        }
        driven.append(speed, load, turn, height, heat);
        driven.fillSoot(settings[TRAP]);
        return driven.length;
    }

    public int dose(int map, int klass, int v) {
        if (!isBelow(map, MAPS)) {
            return UNKNOWN;
        }
        if (!isBelow(klass, CLASSES) || !isUpTo(v, MOST_DOSE)) {
            return OUTSIDE;
        }
        return replaced(doses[map], klass, v);
    }

    public int set(int what, int v) {
        if (!isBelow(what, settings.length) || v < LEAST_SETTINGS[what] || v > MOST_SETTINGS[what]) {
            return OUTSIDE;
        }
        int before = replaced(settings, what, v);
        for (int drive = 0; drive < DRIVES; drive++) {
            drives[drive].fillSoot(settings[TRAP]);
        }
        return before;
    }

    public int reading(int drive, int tick, int reading) {
        if (!isTick(drive, tick)) {
            return UNKNOWN;
        }
        if (!isBelow(reading, READINGS)) {
            return OUTSIDE;
        }
        drives[drive].fillReadings(tick, readings);
        return readings[reading];
    }

    // ---- texts

    public int write(long bytes, int n) {
        if (n < 1 || n > WRITE_BYTES) {
            return OUTSIDE;
        }
        if (text.length + n > TEXT_BYTES) {
            return FULL;
        }
        text.append(bytes, n);
        return text.length;
    }

    public int erase() {
        int had = text.length;
        text.length = 0;
        return had;
    }

    public int fault(int what) {
        if (what == 0) {
            return text.faultAsProgram(draftProgram);
        }
        return what == 1 ? text.faultAsLaw(draftLaw) : OUTSIDE;
    }

    public int program(int version) {
        if (!isBelow(version, VERSIONS)) {
            return UNKNOWN;
        }
        if (text.faultAsProgram(draftProgram) != NONE) {
            return NOT;
        }
        Program before = programs[version];
        programs[version] = draftProgram;
        draftProgram = before;
        text.length = 0;
        return programs[version].lines;
    }

    public int law(int land) {
        if (!isBelow(land, LANDS)) {
            return UNKNOWN;
        }
        if (text.faultAsLaw(draftLaw) != NONE) {
            return NOT;
        }
        Law before = laws[land];
        laws[land] = draftLaw;
        draftLaw = before;
        text.length = 0;
        return laws[land].lines;
    }

    // ---- runs

    public int run(int version, int drive, int tick, int what) {
        if (!isBelow(version, VERSIONS) || !isTick(drive, tick)) {
            return UNKNOWN;
        }
        fillOutcome(version, drive);
        switch (what) {
            case 0: return outcome.map[tick];
            case 1: return outcome.line[tick];
            case 2: return outcome.used[tick];
            case 3: return outcome.turnedOff[tick];
            case 4: return outcome.air[tick];
            default: return OUTSIDE;
        }
    }

    public int all(int version, int drive, int what) {
        if (!isBelow(version, VERSIONS) || !isBelow(drive, DRIVES)) {
            return UNKNOWN;
        }
        fillOutcome(version, drive);
        switch (what) {
            case 2: return outcome.allUsed;
            case 3: return outcome.allTurnedOff;
            case 4: return outcome.allAir;
            case 5: return outcome.emptied;
            default: return OUTSIDE;
        }
    }

    public int parts(int test) {
        return isBelow(test, PARTING_TESTS) ? partedRoads(test) : OUTSIDE;
    }

    public int bound(int test) {
        return isBelow(test, PARTING_TESTS) ? numberInTest(test) : OUTSIDE;
    }

    public int fewest() {
        int unreached = (PARTING_TESTS + 1) << PARTING_TESTS;
        Arrays.fill(leastSets, unreached);
        leastSets[0] = 0;
        int partable = 0;
        for (int test = 0; test < PARTING_TESTS; test++) {
            int parted = partedRoads(test);
            partable |= parted;
            addToLeastSets(test, parted, unreached);
        }
        return leastSets[partable] & ((1 << PARTING_TESTS) - 1);
    }

    public int spy(int version, int drive, int map) {
        if (!isBelow(version, VERSIONS) || !isBelow(drive, DRIVES) || !isBelow(map, MAPS)) {
            return UNKNOWN;
        }
        Drive spied = drives[drive];
        for (int turn = 0; turn <= MOST_TURN; turn++) {
            for (int tick = 0; tick < spied.length; tick++) {
                if (spied.turn[tick] != turn && isHidden(programs[version], spied, map, tick, turn)) {
                    return SPY_TURN * turn + tick;
                }
            }
        }
        return NONE;
    }

    // ---- measures, laws

    public int measure(int drive, int tick, int air) {
        if (!isTick(drive, tick)) {
            return UNKNOWN;
        }
        if (!isUpTo(air, MOST_AIR)) {
            return OUTSIDE;
        }
        if (measures.size >= MEASURES) {
            return FULL;
        }
        measures.append(drive, tick, air);
        return measures.size;
    }

    public int lets() {
        int let = 0;
        for (int version = 0; version < VERSIONS; version++) {
            if (isLet(version)) {
                let |= 1 << version;
            }
        }
        return let;
    }

    public int parting(int what) {
        if (!isBelow(what, 2)) {
            return OUTSIDE;
        }
        int let = lets();
        fillAllTotals();
        int best = NONE;
        int most = 0;
        for (int drive = 0; drive < DRIVES; drive++) {
            int unlike = unlikeAirs(drive, let);
            if (unlike > most) {
                best = drive;
                most = unlike;
            }
        }
        return what == 0 ? best : most;
    }

    public int breaks(int version, int land) {
        if (!isBelow(version, VERSIONS) || !isBelow(land, LANDS)) {
            return UNKNOWN;
        }
        fillTotals(version);
        return brokenLines(version, land);
    }

    public int cold(int version, int map, int heat, int part) {
        if (!isBelow(version, VERSIONS) || !isBelow(map, MAPS)) {
            return UNKNOWN;
        }
        if (!isUpTo(heat, MOST_HEAT + 1) || !isBelow(part, 2)) {
            return OUTSIDE;
        }
        int heatLimit = part == 0 ? heat : MOST_HEAT + 1;
        int ticks = 0;
        for (int drive = 0; drive < DRIVES; drive++) {
            if (drives[drive].sort == ROAD) {
                fillOutcome(version, drive);
                ticks += ticksWithout(map, drives[drive], heatLimit);
            }
        }
        return ticks;
    }

    // ---- tanks, fixes, looks

    public int lasts(int version, int drive) {
        if (!isBelow(version, VERSIONS) || !isBelow(drive, DRIVES)) {
            return UNKNOWN;
        }
        if (drives[drive].length == 0) {
            return NOT;
        }
        fillOutcome(version, drive);
        if (outcome.allUsed == 0) {
            return MOST_LASTS;
        }
        return Math.min(settings[TANK] / outcome.allUsed, MOST_LASTS);
    }

    public int saves(int version, int other) {
        if (!isBelow(version, VERSIONS) || !isBelow(other, VERSIONS)) {
            return Integer.MIN_VALUE;
        }
        fillTotals(version);
        fillTotals(other);
        return usedOnRoads(other) - usedOnRoads(version);
    }

    public int cars(int version, int what, int v) {
        if (!isBelow(version, VERSIONS)) {
            return UNKNOWN;
        }
        if (!isBelow(what, 2) || !isUpTo(v, what == 0 ? MOST_CARS : MOST_FEE)) {
            return OUTSIDE;
        }
        return replaced(what == 0 ? cars : fees, version, v);
    }

    public int fix(int version, int land, int what) {
        if (!isBelow(version, VERSIONS) || !isBelow(land, LANDS)) {
            return UNKNOWN;
        }
        if (!isBelow(what, 2)) {
            return OUTSIDE;
        }
        fillAllTotals();
        int to = cheapestFix(version, lawfulVersions(land));
        return what == 0 ? to : fixCost(version, to);
    }

    public int owed(int land) {
        if (!isBelow(land, LANDS)) {
            return UNKNOWN;
        }
        fillAllTotals();
        int lawful = lawfulVersions(land);
        long owed = 0;
        for (int version = 0; version < VERSIONS; version++) {
            owed += (long) cars[version] * fixCost(version, cheapestFix(version, lawful));
        }
        return (int) Math.min(owed, MOST_OWED);
    }

    public int cost(int drive, int v) {
        if (!isBelow(drive, DRIVES)) {
            return UNKNOWN;
        }
        if (!isUpTo(v, MOST_COST)) {
            return OUTSIDE;
        }
        int before = drives[drive].lookCost;
        drives[drive].lookCost = v;
        return before;
    }

    public int looks(int hundredths, int what) {
        if (!isUpTo(hundredths, MOST_HUNDREDTHS) || !isBelow(what, 3)) {
            return OUTSIDE;
        }
        fillAllTotals();
        fillCaught(hundredths);
        int everyDrive = (1 << DRIVES) - 1;
        int catchable = caughtByAny(everyDrive);
        if (what == 2) {
            return catchable;
        }
        int best = everyDrive;
        for (int set = everyDrive; set >= 0; set--) {
            // Going down, the least number of several with the same costs stays.
            if (caughtByAny(set) == catchable && lookCosts(set) <= lookCosts(best)) {
                best = set;
            }
        }
        return what == 0 ? best : lookCosts(best);
    }

    // ---- asking, streets

    public int months(int n) {
        if (n < 1 || n > MOST_MONTHS_AT_ONCE || month + n > MOST_MONTH) {
            return OUTSIDE;
        }
        month += n;
        return month;
    }

    public int ask(int land, int version, int reading) {
        if (!isBelow(land, LANDS) || !isBelow(version, VERSIONS)) {
            return UNKNOWN;
        }
        if (!isBelow(reading, READINGS)) {
            return OUTSIDE;
        }
        if (questions.size >= QUESTIONS) {
            return FULL;
        }
        questions.append(land, version, reading);
        return questions.size - 1;
    }

    public int tell(int asked) {
        if (!isBelow(asked, questions.size)) {
            return UNKNOWN;
        }
        if (questions.toldIn[asked] != NONE) {
            return NOT;
        }
        questions.toldIn[asked] = month;
        return 1;
    }

    public int known(int land, int version, int month) {
        if (!isBelow(land, LANDS) || !isBelow(version, VERSIONS)) {
            return UNKNOWN;
        }
        return isUpTo(month, MOST_MONTH) ? questions.toldReadings(land, version, month) : OUTSIDE;
    }

    public long comes(int street) {
        if (!isBelow(street, STREETS)) {
            return UNKNOWN;
        }
        fillAllTotals();
        long own = airInStreet(street);
        long ahead = airInStreet((street + STREETS - 1) % STREETS);
        return own - blownAway(own) + blownAway(ahead);
    }

    public int count(int what) {
        switch (what) {
            case 0: return month;
            case 1: return text.length;
            case 2: return measures.size;
            case 3: return questions.size;
            case 4: return questions.howManyTold();
            case 5: return ticksOfAllDrives();
            default: return OUTSIDE;
        }
    }

    // ---- bounds

    private static boolean isBelow(int n, int limit) {
        return n >= 0 && n < limit;
    }

    private static boolean isUpTo(int n, int most) {
        return n >= 0 && n <= most;
    }

    private boolean isTick(int drive, int tick) {
        return isBelow(drive, DRIVES) && isBelow(tick, drives[drive].length);
    }

    private static int replaced(int[] row, int at, int v) {
        int before = row[at];
        row[at] = v;
        return before;
    }

    private int ticksOfAllDrives() {
        int ticks = 0;
        for (int drive = 0; drive < DRIVES; drive++) {
            ticks += drives[drive].length;
        }
        return ticks;
    }

    // ---- how a VERSION RUNS

    private void fillOutcome(int version, int drive) {
        Program program = programs[version];
        Drive driven = drives[drive];
        int left = settings[TANK];
        outcome.clear();
        for (int tick = 0; tick < driven.length; tick++) {
            driven.fillReadings(tick, readings);
            int line = program.lineFor(readings);
            int map = program.mapOf(line);
            int raw = driven.load[tick] + driven.speed[tick] / 2;
            int used = Math.min(doses[map][driven.speed[tick] / CLASS_WIDTH], left);
            left -= used;
            outcome.map[tick] = map;
            outcome.line[tick] = line;
            outcome.add(tick, raw, used, driven.burnsOff(tick, settings[TRAP]));
        }
    }

    private void fillTotals(int version) {
        for (int drive = 0; drive < DRIVES; drive++) {
            fillOutcome(version, drive);
            airOf[version][drive] = outcome.allAir;
            usedOf[version][drive] = outcome.allUsed;
        }
    }

    private void fillAllTotals() {
        for (int version = 0; version < VERSIONS; version++) {
            fillTotals(version);
        }
    }

    private int usedOnRoads(int version) {
        int used = 0;
        for (int drive = 0; drive < DRIVES; drive++) {
            if (drives[drive].sort == ROAD) {
                used += usedOf[version][drive];
            }
        }
        return used;
    }

    private int ticksWithout(int map, Drive driven, int heatLimit) {
        int ticks = 0;
        for (int tick = 0; tick < driven.length; tick++) {
            if (outcome.map[tick] != map && driven.heat[tick] < heatLimit) {
                ticks++;
            }
        }
        return ticks;
    }

    private boolean isHidden(Program program, Drive spied, int map, int from, int turn) {
        int more = turn - Math.abs(spied.turn[from]);
        for (int tick = from; tick < spied.length; tick++) {
            spied.fillReadings(tick, readings);
            readings[TURNED] += more;
            if (tick == from) {
                readings[WHEEL] = turn;
            }
            if (program.mapOf(program.lineFor(readings)) == map) {
                return false;
            }
        }
        return true;
    }

    // ---- TESTS that may part

    private static boolean isAbove(int test) {
        return test % 2 == 1;
    }

    private int numberInTest(int test) {
        boolean above = isAbove(test);
        int edge = NONE;
        for (int drive = 0; drive < DRIVES; drive++) {
            Drive driven = drives[drive];
            for (int tick = 0; driven.sort == STAND && tick < driven.length; tick++) {
                driven.fillReadings(tick, readings);
                int value = readings[test / 2];
                if (edge == NONE || (above ? value < edge : value > edge)) {
                    edge = value;
                }
            }
        }
        if (edge == NONE) {
            return NONE;
        }
        // A least reading of 0 gives -1 here, which is NONE: there is no such TEST.
        return above ? edge - 1 : edge + 1;
    }

    private int partedRoads(int test) {
        int number = numberInTest(test);
        int parted = 0;
        for (int drive = 0; number != NONE && drive < DRIVES; drive++) {
            if (drives[drive].sort == ROAD && failsOn(drives[drive], test, number)) {
                parted |= 1 << drive;
            }
        }
        return parted;
    }

    private boolean failsOn(Drive driven, int test, int number) {
        for (int tick = 0; tick < driven.length; tick++) {
            driven.fillReadings(tick, readings);
            int value = readings[test / 2];
            if (isAbove(test) ? value <= number : value >= number) {
                return true;
            }
        }
        return false;
    }

    /**
     * For each set of ROADS the least set of TESTS so far that PARTS just these, its size above its bits.
     * Each TEST comes once, in their order, so sets that it joins stay in the order they had.
     */
    private void addToLeastSets(int test, int parted, int unreached) {
        int one = (1 << PARTING_TESTS) | (1 << test);
        for (int roads = leastSets.length - 1; roads >= 0; roads--) {
            // What lacks none of these ROADS gains nothing by the TEST.
            if (leastSets[roads] < unreached && (roads & parted) != parted) {
                int with = roads | parted;
                leastSets[with] = Math.min(leastSets[with], leastSets[roads] + one);
            }
        }
    }

    // ---- measures, laws

    private boolean isLet(int version) {
        for (int at = 0; at < measures.size; at++) {
            int drive = measures.drive[at];
            int tick = measures.tick[at];
            if (!isTick(drive, tick)) {
                return false;
            }
            fillOutcome(version, drive);
            if (outcome.airUpTo(tick) != measures.air[at]) {
                return false;
            }
        }
        return true;
    }

    private int unlikeAirs(int drive, int let) {
        int unlike = 0;
        for (int version = 0; version < VERSIONS; version++) {
            boolean isNew = (let >> version & 1) == 1;
            for (int other = 0; other < version; other++) {
                if ((let >> other & 1) == 1 && airOf[other][drive] == airOf[version][drive]) {
                    isNew = false;
                }
            }
            if (isNew) {
                unlike++;
            }
        }
        return unlike;
    }

    private int brokenLines(int version, int land) {
        Law law = laws[land];
        int told = questions.toldReadings(land, version, MOST_MONTH);
        int gram = law.leastGram();
        int broken = 0;
        for (int line = 0; line < law.lines; line++) {
            int number = law.number[line];
            boolean breaks = false;
            switch (law.kind[line]) {
                case GRAM: breaks = someAirAbove(version, STAND, 100, number); break;
                case ROAD_LINE: breaks = gram != NONE && someAirAbove(version, ROAD, 10000, gram * number); break;
                case BAN: breaks = programs[version].asksFor(number); break;
                case ASK: breaks = programs[version].asksFor(number) && (told >> number & 1) == 0; break;
                default: break;
            }
            if (breaks) {
                broken |= 1 << line;
            }
        }
        return broken;
    }

    private boolean someAirAbove(int version, int sort, int times, int limit) {
        for (int drive = 0; drive < DRIVES; drive++) {
            Drive driven = drives[drive];
            if (driven.sort == sort && times * airOf[version][drive] > limit * driven.length) {
                return true;
            }
        }
        return false;
    }

    // ---- fixes, looks

    private int lawfulVersions(int land) {
        int lawful = 0;
        for (int version = 0; version < VERSIONS; version++) {
            if (brokenLines(version, land) == 0) {
                lawful |= 1 << version;
            }
        }
        return lawful;
    }

    private int cheapestFix(int version, int lawful) {
        int best = BUYING_BACK;
        for (int to = VERSIONS - 1; to >= 0; to--) {
            // Going down with <=, the least of several stays, and a fix comes ahead of buying back.
            if ((lawful >> to & 1) == 1 && fixCost(version, to) <= fixCost(version, best)) {
                best = to;
            }
        }
        return best;
    }

    private int fixCost(int version, int to) {
        if (to == BUYING_BACK) {
            return settings[PRICE];
        }
        if (to == version) {
            return 0;
        }
        return fees[to] + Math.max(0, usedOnRoads(to) - usedOnRoads(version));
    }

    private void fillCaught(int hundredths) {
        for (int drive = 0; drive < DRIVES; drive++) {
            caughtBy[drive] = 0;
            for (int version = 0; version < VERSIONS; version++) {
                if (100 * airOf[version][drive] > hundredths * drives[drive].length) {
                    caughtBy[drive] |= 1 << version;
                }
            }
        }
    }

    private int caughtByAny(int set) {
        int caught = 0;
        for (int drive = 0; drive < DRIVES; drive++) {
            if ((set >> drive & 1) == 1) {
                caught |= caughtBy[drive];
            }
        }
        return caught;
    }

    private int lookCosts(int set) {
        int costs = 0;
        for (int drive = 0; drive < DRIVES; drive++) {
            if ((set >> drive & 1) == 1) {
                costs += drives[drive].lookCost;
            }
        }
        return costs;
    }

    // ---- streets

    private long airInStreet(int street) {
        long air = 0;
        for (int drive = 0; drive < DRIVES; drive++) {
            if (drives[drive].sort == ROAD && drives[drive].street == street) {
                for (int version = 0; version < VERSIONS; version++) {
                    air += (long) cars[version] * airOf[version][drive];
                }
            }
        }
        return air;
    }

    private long blownAway(long air) {
        return air * settings[WIND] / 100;
    }

    /** A DRIVE: its TICKS in rows, and what comes of them whatever VERSION RUNS it. */
    private static final class Drive {
        int sort = STAND;
        int street = 0;
        int length = 0;
        int lookCost = 1;
        final int[] speed = new int[TICKS];
        final int[] load = new int[TICKS];
        final int[] turn = new int[TICKS];
        final int[] height = new int[TICKS];
        final int[] heat = new int[TICKS];
        final int[] turned = new int[TICKS];
        final int[] soot = new int[TICKS];

        void restart(int newSort, int newStreet) {
            sort = newSort;
            street = newStreet;
            length = 0;
        }

        void append(int newSpeed, int newLoad, int newTurn, int newHeight, int newHeat) {
            if (length >= TICKS) {
                return;
            }
            speed[length] = newSpeed;
            load[length] = newLoad;
            turn[length] = newTurn;
            height[length] = newHeight;
            heat[length] = newHeat;
            turned[length] = Math.abs(newTurn) + (length == 0 ? 0 : turned[length - 1]);
            length++;
        }

        void fillSoot(int trap) {
            int inTrap = 0;
            for (int tick = 0; tick < length; tick++) {
                soot[tick] = inTrap;
                inTrap = burnsOff(tick, trap) ? 0 : inTrap + load[tick] / SOOT_SHARE;
            }
        }

        boolean burnsOff(int tick, int trap) {
            return soot[tick] + load[tick] / SOOT_SHARE > trap;
        }

        void fillReadings(int tick, int[] row) {
            row[TIME] = tick;
            row[WHEEL] = Math.abs(turn[tick]);
            row[TURNED] = turned[tick];
            row[HEIGHT] = height[tick];
            row[HEAT] = heat[tick];
            row[SPEED] = speed[tick];
            row[LOAD] = load[tick];
            row[SOOT] = soot[tick];
        }
    }

    /** What came of a VERSION that RUNS a DRIVE. */
    private static final class Outcome {
        final int[] map = new int[TICKS];
        final int[] line = new int[TICKS];
        final int[] used = new int[TICKS];
        final int[] turnedOff = new int[TICKS];
        final int[] air = new int[TICKS];
        int allUsed = 0;
        int allTurnedOff = 0;
        int allAir = 0;
        int emptied = 0;

        void clear() {
            allUsed = 0;
            allTurnedOff = 0;
            allAir = 0;
            emptied = 0;
        }

        void add(int tick, int raw, int use, boolean burnsOff) {
            int off = Math.min(TURNED_BY_ONE * use, raw);
            used[tick] = use;
            turnedOff[tick] = off;
            air[tick] = raw - off + (burnsOff ? BURN_AIR : 0);
            allUsed += use;
            allTurnedOff += off;
            allAir += air[tick];
            emptied += burnsOff ? 1 : 0;
        }

        int airUpTo(int last) {
            int sum = 0;
            for (int tick = 0; tick <= last; tick++) {
                sum += air[tick];
            }
            return sum;
        }
    }

    /** LINES of maps, each with its TESTS side by side: those of line i begin at LINE_TESTS times i. */
    private static final class Program {
        int lines = 0;
        final int[] map = new int[PROGRAM_LINES];
        final int[] tests = new int[PROGRAM_LINES];
        final int[] reading = new int[PROGRAM_LINES * LINE_TESTS];
        final boolean[] above = new boolean[PROGRAM_LINES * LINE_TESTS];
        final int[] number = new int[PROGRAM_LINES * LINE_TESTS];

        int lineFor(int[] readings) {
            for (int line = 0; line < lines; line++) {
                if (isTaken(line, readings)) {
                    return line;
                }
            }
            return NONE;
        }

        private boolean isTaken(int line, int[] readings) {
            int first = LINE_TESTS * line;
            for (int test = first; test < first + tests[line]; test++) {
                int value = readings[reading[test]];
                if (above[test] ? value <= number[test] : value >= number[test]) {
                    return false;
                }
            }
            return true;
        }

        int mapOf(int line) {
            return line == NONE ? 0 : map[line];
        }

        boolean asksFor(int wanted) {
            for (int line = 0; line < lines; line++) {
                int first = LINE_TESTS * line;
                for (int test = first; test < first + tests[line]; test++) {
                    if (reading[test] == wanted) {
                        return true;
                    }
                }
            }
            return false;
        }
    }

    /** LINES of a LAW: their kinds, and the number or READING of each. */
    private static final class Law {
        int lines = 0;
        final int[] kind = new int[LAW_LINES];
        final int[] number = new int[LAW_LINES];

        int leastGram() {
            int least = NONE;
            for (int line = 0; line < lines; line++) {
                if (kind[line] == GRAM && (least == NONE || number[line] < least)) {
                    least = number[line];
                }
            }
            return least;
        }
    }

    /** THE TEXT, and the TOKEN of it (from start, ahead of end) at which reading stands. */
    private static final class Text {
        int length = 0;
        private final int[] bytes = new int[TEXT_BYTES];
        private int start = 0;
        private int end = 0;

        void append(long more, int n) {
            for (int i = 0; i < n && length < TEXT_BYTES; i++) {
                bytes[length] = (int) (more >> 8 * i & 255);
                length++;
            }
        }

        int faultAsProgram(Program into) {
            goToFirst();
            into.lines = 0;
            boolean more = true;
            for (int line = 0; more && line < PROGRAM_LINES; line++) {
                if (!takesProgramLine(into, line)) {
                    return start;
                }
                into.lines = line + 1;
                more = into.lines < PROGRAM_LINES && takesWord(";");
            }
            return start == length ? NONE : start;
        }

        int faultAsLaw(Law into) {
            goToFirst();
            into.lines = 0;
            boolean more = true;
            for (int line = 0; more && line < LAW_LINES; line++) {
                if (!takesLawLine(into, line)) {
                    return start;
                }
                into.lines = line + 1;
                more = into.lines < LAW_LINES && takesWord(";");
            }
            return start == length ? NONE : start;
        }

        private boolean takesProgramLine(Program into, int line) {
            into.tests[line] = 0;
            if (!takesWord("map")) {
                return false;
            }
            into.map[line] = takeNumber(MAPS - 1);
            if (into.map[line] == NONE) {
                return false;
            }
            boolean more = takesWord("when");
            for (int test = 0; more && test < LINE_TESTS; test++) {
                if (!takesTest(into, LINE_TESTS * line + test)) {
                    return false;
                }
                into.tests[line] = test + 1;
                more = into.tests[line] < LINE_TESTS && takesWord("and");
            }
            return true;
        }

        private boolean takesTest(Program into, int test) {
            into.reading[test] = takeReading();
            if (into.reading[test] == NONE) {
                return false;
            }
            into.above[test] = takesWord("above");
            if (!into.above[test] && !takesWord("below")) {
                return false;
            }
            into.number[test] = takeNumber(MOST_NUMBER);
            return into.number[test] != NONE;
        }

        private boolean takesLawLine(Law into, int line) {
            into.kind[line] = takeKind();
            if (into.kind[line] == NONE) {
                return false;
            }
            boolean hasReading = into.kind[line] == BAN || into.kind[line] == ASK;
            into.number[line] = hasReading ? takeReading() : takeNumber(MOST_NUMBER);
            return into.number[line] != NONE;
        }

        private int takeKind() {
            if (takesWord("gram")) {
                return GRAM;
            }
            if (takesWord("road")) {
                return ROAD_LINE;
            }
            if (takesWord("ban")) {
                return BAN;
            }
            return takesWord("ask") ? ASK : NONE;
        }

        private int takeReading() {
            for (int reading = 0; reading < READINGS; reading++) {
                if (isAt(wordOf(reading))) {
                    goToNext();
                    return reading;
                }
            }
            return NONE;
        }

        private static String wordOf(int reading) {
            switch (reading) {
                case TIME: return "time";
                case WHEEL: return "wheel";
                case TURNED: return "turned";
                case HEIGHT: return "height";
                case HEAT: return "heat";
                case SPEED: return "speed";
                case LOAD: return "load";
                default: return "soot";
            }
        }

        private void goToFirst() {
            end = 0;
            goToNext();
        }

        /** At the end of THE TEXT the TOKEN is empty, and start is the length. */
        private void goToNext() {
            start = end;
            while (start < length && bytes[start] == ' ') {
                start++;
            }
            end = Math.min(start + 1, length);
            while (end < length && isOfOneRow(bytes[start], bytes[end])) {
                end++;
            }
        }

        private static boolean isOfOneRow(int one, int other) {
            boolean letters = one >= 'a' && one <= 'z' && other >= 'a' && other <= 'z';
            boolean digits = one >= '0' && one <= '9' && other >= '0' && other <= '9';
            return letters || digits;
        }

        private boolean isAt(String word) {
            if (end - start != word.length()) {
                return false;
            }
            for (int i = 0; i < word.length(); i++) {
                if (bytes[start + i] != word.charAt(i)) {
                    return false;
                }
            }
            return true;
        }

        private boolean takesWord(String word) {
            if (!isAt(word)) {
                return false;
            }
            goToNext();
            return true;
        }

        private int takeNumber(int most) {
            if (start == end || end - start > MOST_DIGITS || bytes[start] < '0' || bytes[start] > '9') {
                return NONE;
            }
            int number = 0;
            for (int at = start; at < end; at++) {
                number = 10 * number + bytes[at] - '0';
            }
            if (number > most) {
                return NONE;
            }
            goToNext();
            return number;
        }
    }

    /** MEASURES: the DRIVE, the TICK and the AIR of each. */
    private static final class Measures {
        int size = 0;
        final int[] drive = new int[MEASURES];
        final int[] tick = new int[MEASURES];
        final int[] air = new int[MEASURES];

        void append(int newDrive, int newTick, int newAir) {
            if (size >= MEASURES) {
                return;
            }
            drive[size] = newDrive;
            tick[size] = newTick;
            air[size] = newAir;
            size++;
        }
    }

    /** What was ASKED, and in which MONTH it was TOLD (NONE: never). */
    private static final class Questions {
        int size = 0;
        final int[] land = new int[QUESTIONS];
        final int[] version = new int[QUESTIONS];
        final int[] reading = new int[QUESTIONS];
        final int[] toldIn = new int[QUESTIONS];

        void append(int newLand, int newVersion, int newReading) {
            if (size >= QUESTIONS) {
                return;
            }
            land[size] = newLand;
            version[size] = newVersion;
            reading[size] = newReading;
            toldIn[size] = NONE;
            size++;
        }

        int toldReadings(int toLand, int ofVersion, int byMonth) {
            int told = 0;
            for (int at = 0; at < size; at++) {
                if (land[at] == toLand && version[at] == ofVersion && toldIn[at] != NONE && toldIn[at] <= byMonth) {
                    told |= 1 << reading[at];
                }
            }
            return told;
        }

        int howManyTold() {
            int told = 0;
            for (int at = 0; at < size; at++) {
                told += toldIn[at] == NONE ? 0 : 1;
            }
            return told;
        }
    }
}
