import java.nio.file.Files;
import java.nio.file.Path;

/**
 * The document's sentences that name an edge, each with a test of its own: what is too small or too large, empty or full,
 * what goes around, and what lies just on a bound. The words of each are looked up in the document itself. (That each
 * call refuses each of its numbers, and changes nothing then, is in RefusalTests.)
 */
public final class SentenceTests extends Checks {
    private static final int PROMISES = 35;
    // The parts of the document: 0 is all ahead of promise 1, then each promise.
    private static final String[] PARTS = new String[PROMISES + 1];
    private static final boolean[] SAID = new boolean[PROMISES + 1];
    private static String sentence = "";

    public static void main(String[] args) throws Exception {
        read(Files.readString(Path.of(args[1])));
        termsOfDrives();
        termsOfReadings();
        termsOfTexts();
        termsOfRuns();
        termsOfParting();
        termsOfMeasures();
        termsOfLaws();
        termsOfTanks();
        termsOfFixes();
        termsOfLooks();
        termsOfMonths();
        termsOfRefusals();
        promisesOfDrives();
        promisesOfTexts();
        promisesOfRuns();
        promisesOfMeasures();
        promisesOfFixes();
        promisesOfAsking();
        for (int promise = 0; promise <= PROMISES; promise++) {
            holds("promise " + promise + " has no sentence here", SAID[promise]);
        }
        end("SentenceTests");
    }

    private static void read(String document) {
        int from = 0;
        for (int promise = 1; promise <= PROMISES; promise++) {
            int to = document.indexOf("## Promise " + promise + ":");
            PARTS[promise - 1] = document.substring(from, to);
            from = to;
        }
        PARTS[PROMISES] = document.substring(from);
    }

    /** What follows tests these words of a promise (0: of the Terms). */
    private static void says(int promise, String words) {
        sentence = promise + ": " + words;
        SAID[promise] = true;
        holds("the document does not say " + sentence, PARTS[promise].contains(words));
    }

    private static void is(String what, long got, long want) {
        due("'" + sentence + "', " + what, got, want);
    }

    private static CleanStand fresh() {
        return new CleanStand();
    }

    /** A stand of one tick with nothing in it but a speed and a load. */
    private static CleanStand oneTick(int speed, int load) {
        CleanStand x = fresh();
        x.tick(0, speed, load, 0, 0, 0);
        return x;
    }

    private static int fault(int what, String text) {
        return written(fresh(), text).fault(what);
    }

    private static String repeated(String line, int times) {
        return line + (";" + line).repeat(times - 1);
    }

    // ---- Terms: drives, maps

    private static void termsOfDrives() {
        says(0, "An object is used for at most 512 calls");
        CleanStand x = fresh();
        for (int call = 1; call < 512; call++) {
            x.dose(call % 4, call / 4 % 4, call % 61);
        }
        is("the 512th call", x.dose(3, 3, 0), 511 % 61);
        says(0, "5 (no TICKS at first)");
        for (int drive = 0; drive < DRIVES; drive++) {
            is("no tick 0 of " + drive, fresh().reading(drive, 0, 0), UNKNOWN);
            is("no ticks of " + drive, fresh().lasts(0, drive), NOT);
            is("the first of " + drive, fresh().tick(drive, 0, 0, 0, 0, 0), 1);
        }
        is("none ahead of 0", fresh().tick(-1, 0, 0, 0, 0, 0), UNKNOWN);
        is("none after 5", fresh().tick(6, 0, 0, 0, 0, 0), UNKNOWN);
        sorts();
        ticks();
        eachNumberOfATick();
        doses();
        tankAndTrap();
    }

    private static void sorts() {
        says(0, "each of a SORT (0 a STAND at first, 1 a ROAD)");
        for (int drive = 0; drive < DRIVES; drive++) {
            CleanStand x = fresh();
            x.cars(0, 0, 1);
            x.tick(drive, 0, 7, 0, 0, 0);
            is(drive + " is a stand at first", x.bound(12), 8);
            is(drive + " is no road at first", x.comes(0), 0);
            loads(x, drive, 1, 0, 7);
            is(drive + " as a road", x.bound(12), NONE);
            is(drive + " as a road", x.comes(0), 7);
        }
        says(0, "in a STREET (0 .. 3; 0 at first)");
        for (int street = 0; street < STREETS; street++) {
            CleanStand x = loads(fresh(), 0, 1, street, 5);
            x.cars(0, 0, 1);
            for (int other = 0; other < STREETS; other++) {
                is("in " + street + ", in " + other, x.comes(other), other == street ? 5 : 0);
            }
        }
        is("none ahead of 0", fresh().drive(0, 1, -1), UNKNOWN);
        is("none after 3", fresh().drive(0, 1, 4), UNKNOWN);
    }

    private static void ticks() {
        says(0, "of TICKS, 40 at most, numbered from 0");
        CleanStand x = fresh();
        for (int tick = 1; tick <= TICKS; tick++) {
            for (int drive = 0; drive < DRIVES; drive++) {
                is("tick " + tick, x.tick(drive, tick, 0, 0, 0, 0), tick);
            }
        }
        for (int drive = 0; drive < DRIVES; drive++) {
            is("41 are too many", x.tick(drive, 0, 0, 0, 0, 0), FULL);
            is("the first", x.reading(drive, 0, 5), 1);
            is("the last", x.reading(drive, 39, 5), 40);
            is("none ahead of 0", x.reading(drive, -1, 5), UNKNOWN);
            is("none after 39", x.reading(drive, 40, 5), UNKNOWN);
        }
        is("all of all drives", x.count(5), 240);
        x.drive(2, 0, 0);
        is("emptied, there is room again", x.tick(2, 0, 0, 0, 0, 0), 1);
    }

    private static void eachNumberOfATick() {
        says(0, "SPEED (0 .. 159)");
        tickNumber(0, 5, 0, 159);
        says(0, "LOAD (0 .. 99)");
        tickNumber(1, 6, 0, 99);
        says(0, "TURN of the hand's wheel (-9 .. 9)");
        tickNumber(2, 1, -9, 9);
        says(0, "HEIGHT (0 .. 30)");
        tickNumber(3, 3, 0, 30);
        says(0, "HEAT (0 .. 60)");
        tickNumber(4, 4, 0, 60);
    }

    /** The number at a place among those of a tick, told back by a reading. */
    private static void tickNumber(int at, int reading, int least, int most) {
        CleanStand x = fresh();
        is("the least", tickWith(x, at, least), 1);
        is("the most", tickWith(x, at, most), 2);
        is("too small", tickWith(x, at, least - 1), OUTSIDE);
        is("too large", tickWith(x, at, most + 1), OUTSIDE);
        is("the smallest", tickWith(x, at, LEAST), OUTSIDE);
        is("the largest", tickWith(x, at, MOST), OUTSIDE);
        is("the least is kept", x.reading(4, 0, reading), Math.abs(least));
        is("the most is kept", x.reading(4, 1, reading), most);
        is("no tick more by those refused", x.count(5), 2);
    }

    private static int tickWith(CleanStand x, int at, int number) {
        int[] n = new int[5];
        n[at] = number;
        return x.tick(4, n[0], n[1], n[2], n[3], n[4]);
    }

    private static void doses() {
        says(0, "MAPS are 0 .. 3: DOSES (0 .. 60; 0 at first) by classes 0 .. 3 (SPEED by 40, cut)");
        CleanStand x = fresh();
        for (int map = 0; map < 4; map++) {
            for (int klass = 0; klass < 4; klass++) {
                is("0 at first", x.dose(map, klass, 60), 0);
                is("the most", x.dose(map, klass, 61), OUTSIDE);
                is("the least", x.dose(map, klass, -1), OUTSIDE);
                is("refused, it stays", x.dose(map, klass, 0), 60);
                is("as small as can be", x.dose(map, klass, 4 * map + klass), 0);
            }
        }
        is("no map", x.dose(-1, 0, 0), UNKNOWN);
        is("no map", x.dose(4, 0, 0), UNKNOWN);
        is("no class", x.dose(0, -1, 0), OUTSIDE);
        is("no class", x.dose(0, 4, 0), OUTSIDE);
        programmed(x, 0, "map 3");
        int[] speeds = {0, 39, 40, 79, 80, 119, 120, 159};
        for (int tick = 0; tick < speeds.length; tick++) {
            x.tick(0, speeds[tick], 0, 0, 0, 0);
            is("the class of speed " + speeds[tick], x.run(0, 0, tick, 2), 12 + tick / 2);
        }
    }

    private static void tankAndTrap() {
        says(0, "TANK is 0 .. 9999 (1000 at first), TRAP 20 .. 999 (100 at first)");
        CleanStand x = fresh();
        x.dose(0, 0, 60);
        for (int tick = 0; tick < TICKS; tick++) {
            x.tick(0, 0, 99, 0, 0, 0);
        }
        is("1000 are used up", x.all(0, 0, 2), 1000);
        is("12 a tick, above 100 in each ninth", x.all(0, 0, 5), 4);
        is("1000 at first", x.set(0, 0), 1000);
        is("nothing in it", x.all(0, 0, 2), 0);
        is("0 is kept", x.set(0, 9999), 0);
        is("40 times 60", x.all(0, 0, 2), 2400);
        is("too small", x.set(0, -1), OUTSIDE);
        is("too large", x.set(0, 10000), OUTSIDE);
        is("9999 is kept", x.set(0, 9999), 9999);
        is("100 at first", x.set(1, 20), 100);
        is("above 20 in each second", x.all(0, 0, 5), 20);
        is("too small", x.set(1, 19), OUTSIDE);
        is("20 is kept", x.set(1, 999), 20);
        is("480 are not above 999", x.all(0, 0, 5), 0);
        is("too large", x.set(1, 1000), OUTSIDE);
        is("999 is kept", x.set(1, 480), 999);
        is("480 are not above 480", x.all(0, 0, 5), 0);
        x.set(1, 479);
        is("480 are above 479", x.all(0, 0, 5), 1);
    }

    // ---- Terms: readings

    private static void termsOfReadings() {
        CleanStand x = fresh();
        for (int tick = 0; tick < TICKS; tick++) {
            x.tick(0, 0, 99, tick % 2 == 0 ? -9 : 9, 0, 0);
        }
        says(0, "0 time (its number)");
        is("the first", x.reading(0, 0, 0), 0);
        is("the last", x.reading(0, 39, 0), 39);
        says(0, "1 wheel (TURN without its sign)");
        is("-9", x.reading(0, 0, 1), 9);
        is("9", x.reading(0, 1, 1), 9);
        says(0, "2 turned (wheel of all TICKS up to it, with it, together)");
        is("with it", x.reading(0, 0, 2), 9);
        is("the most", x.reading(0, 39, 2), 360);
        x.drive(0, 0, 0);
        x.tick(0, 0, 0, 4, 0, 0);
        is("of ticks that are there", x.reading(0, 0, 2), 4);
        says(0, "7 soot (what is in the trap ahead of it)");
        x.drive(0, 0, 0);
        for (int tick = 0; tick < 12; tick++) {
            x.tick(0, 0, 99, 0, 0, 0);
        }
        is("nothing at first", x.reading(0, 0, 7), 0);
        is("8 times 12", x.reading(0, 8, 7), 96);
        is("emptied", x.reading(0, 9, 7), 0);
        is("anew", x.reading(0, 10, 7), 12);
        x.set(1, 108);
        is("just full", x.reading(0, 9, 7), 108);
        is("emptied later", x.reading(0, 10, 7), 0);
    }

    // ---- Terms: texts

    private static void termsOfTexts() {
        says(0, "THE TEXT is a row of bytes, 160 at most.");
        CleanStand x = written(fresh(), "map 3" + " ".repeat(155));
        is("160", x.count(1), 160);
        is("161", x.write(32, 1), FULL);
        is("all 160 are read", x.fault(0), NONE);
        is("160 are a program", x.program(0), 1);
        is("the last byte is read", fault(0, "map 3" + " ".repeat(154) + ";"), 160);
        is("159 and two", written(fresh(), " ".repeat(159)).write(0, 2), FULL);
        is("159 and one", written(fresh(), " ".repeat(159)).write(0, 1), 160);
        programLines();
        numbersOfTexts();
        lawLines();
        bytesOfTexts();
        faultsOfTexts();
        programsThatRun();
    }

    private static void programLines() {
        says(0, "LINES with ; (59) between, 6 at most, each map M, or map M when TEST and TEST .. (1 to 4 of them)");
        is("no line", fault(0, ""), 0);
        is("one", written(fresh(), "map 0").program(0), 1);
        is("six", written(fresh(), repeated("map 0", 6)).program(0), 6);
        is("seven", fault(0, repeated("map 0", 7)), 35);
        is("none ahead of ;", fault(0, ";map 0"), 0);
        is("none between", fault(0, "map 0;;map 0"), 6);
        is("none after ;", fault(0, "map 0;"), 6);
        String test = "heat below 3";
        is("no test", fault(0, "map 0 when"), 10);
        is("no test, a line more", fault(0, "map 0 when;map 0"), 10);
        is("one test", fault(0, "map 0 when " + test), NONE);
        is("four tests", fault(0, "map 0 when " + test + (" and " + test).repeat(3)), NONE);
        is("five tests", fault(0, "map 0 when " + test + (" and " + test).repeat(4)), 11 + 12 + 3 * 17 + 1);
        is("a test too few", fault(0, "map 0 when " + test + " and"), 27);
        is("six lines of a test each", fault(0, repeated("map 0when heat below 3", 6)), NONE);
        is("four tests in the sixth line",
            fault(0, repeated("map 0", 5) + ";map 1 when " + test + (" and " + test).repeat(3)), NONE);
    }

    private static void numbersOfTexts() {
        says(0, "M 0 .. 3");
        is("0", fault(0, "map 0"), NONE);
        is("3", fault(0, "map 3"), NONE);
        is("4", fault(0, "map 4"), 4);
        is("999", fault(0, "map 999"), 4);
        is("-1", fault(0, "map -1"), 4);
        says(0, "N 0 .. 999 (below: less; above: greater)");
        is("0", fault(0, "map 0 when heat below 0"), NONE);
        is("999", fault(0, "map 0 when heat above 999"), NONE);
        is("1000", fault(0, "map 0 when heat above 1000"), 22);
        is("far too large", fault(0, "map 0 when heat above 4294967296"), 22);
        is("nothing is below 0", mapBy("load below 0", 0), 0);
        is("0 is below 1", mapBy("load below 1", 0), 1);
        is("0 is not above 0", mapBy("load above 0", 0), 0);
        is("1 is above 0", mapBy("load above 0", 1), 1);
        is("99 is not above 99", mapBy("load above 99", 99), 0);
        is("99 is below 999", mapBy("load below 999", 99), 1);
        is("99 is not above 999", mapBy("load above 999", 99), 0);
        says(0, "R one of time wheel turned height heat speed load soot");
        for (String word : WORDS) {
            is(word, fault(0, "map 0 when " + word + " below 5"), NONE);
            is(word + " with a letter more", fault(0, "map 0 when " + word + "s below 5"), 11);
            is(word + " with one less", fault(0, "map 0 when " + word.substring(1) + " below 5"), 11);
        }
    }

    /** The map of a tick with a load: 1 by the test, 0 else. */
    private static int mapBy(String test, int load) {
        return programmed(oneTick(0, load), 0, "map 1 when " + test).run(0, 0, 0, 0);
    }

    private static void lawLines() {
        says(0, "It may be a LAW: LINES with ; between, 8 at most, each gram N, road P, ban R, or ask R");
        is("no line", fault(1, ""), 0);
        is("one", written(fresh(), "ask soot").law(0), 1);
        is("eight", written(fresh(), repeated("gram 5", 8)).law(0), 8);
        is("nine", fault(1, repeated("gram 5", 9)), 55);
        is("none ahead of ;", fault(1, ";gram 5"), 0);
        is("none between", fault(1, "gram 5;;gram 5"), 7);
        is("none after ;", fault(1, "gram 5;"), 7);
        for (String word : WORDS) {
            is("ban " + word, fault(1, "ban " + word), NONE);
            is("ask " + word, fault(1, "ask " + word), NONE);
            is("gram " + word, fault(1, "gram " + word), 5);
            is("road " + word, fault(1, "road " + word), 5);
        }
        says(0, "(N 0 .. 999, P 0 .. 999)");
        is("0", fault(1, "gram 0;road 0"), NONE);
        is("999", fault(1, "gram 999;road 999"), NONE);
        is("gram 1000", fault(1, "gram 1000"), 5);
        is("road 1000", fault(1, "road 1000"), 5);
        is("gram -1", fault(1, "gram -1"), 5);
    }

    private static void bytesOfTexts() {
        says(0, "small letters a .. z, numbers of 1 to 3 digits, blanks (32) between");
        is("M", fault(0, "Map 0"), 0);
        is("P", fault(0, "maP 0"), 0);
        is("a letter more", fault(0, "mapa 0"), 0);
        is("z more", fault(0, "mapz 0"), 0);
        is("one digit", fault(0, "map 3"), NONE);
        is("three digits", fault(0, "map 003"), NONE);
        is("four digits", fault(0, "map 0003"), 4);
        is("three digits of a law", fault(1, "gram 099"), NONE);
        is("four digits of a law", fault(1, "gram 0099"), 5);
        is("9 is a digit", fault(0, "map 0 when heat below 909"), NONE);
        is("many blanks", fault(0, "   map    0   ;   map    1   "), NONE);
        is("no blanks", fault(0, "map0;map1when heat below3and load above4"), NONE);
        for (int other = 0; other < 256; other++) {
            boolean isLetter = other >= 'a' && other <= 'z';
            boolean isDigit = other >= '0' && other <= '9';
            if (other != ' ' && !isLetter && !isDigit) {
                is("byte " + other + " for a blank", fault(0, "map" + (char) other + "0"), 3);
                is("byte " + other + " at the end", fault(1, "gram 5" + (char) other), other == ';' ? 7 : 6);
            }
        }
    }

    private static void faultsOfTexts() {
        says(0, "A FAULT is at the first TOKEN (a row of letters, a row of digits, any other byte) that cannot stand there");
        is("a row of letters", fault(0, "map 0 whenever"), 6);
        is("a row of digits", fault(0, "map 0 12"), 6);
        is("any other byte", fault(0, "map 0 =="), 6);
        is("a digit ends a row of letters", fault(0, "ma1"), 0);
        is("a letter ends a row of digits", fault(0, "map 1x"), 5);
        is("the first of several", fault(0, "map 9 whn"), 4);
        String[] misplaced = {"5", "map", "below", "heat", "==", "grams", "roa"};
        for (String token : misplaced) {
            is("no line of a law begins with " + token, fault(1, token), 0);
            is("nor a second one", fault(1, "gram 5;" + token + " 5"), 7);
            is("no line of a program either", fault(0, "map 0;" + (token.equals("map") ? "5" : token)), 6);
        }
        says(0, "a number out of its bounds also");
        is("of a program", fault(0, "map 0;map 7"), 10);
        is("of a law", fault(1, "gram 1;road 1000"), 12);
        says(0, "or at the end, if it comes too soon");
        String program = "map 1 when heat below 3 and load above 4;map 2";
        for (int length = 0; length <= program.length(); length++) {
            String cut = program.substring(0, length);
            is("'" + cut + "'", fault(0, cut), faultOfCut(cut, "map 1", "map 1 when heat below 3", program.substring(0, 40)));
        }
        is("a blank at the end", fault(0, "map "), 4);
        is("blanks alone", fault(0, "    "), 4);
        is("160 blanks", fault(1, " ".repeat(160)), 160);
        is("too soon in a law", fault(1, "gram"), 4);
        is("too soon in a law", fault(1, "gram 5;ban "), 11);
    }

    /** Where a text that was cut off has its fault: at the row of letters that was cut, or the end, or nowhere. */
    private static int faultOfCut(String cut, String... wholes) {
        for (String whole : wholes) {
            if (cut.stripTrailing().equals(whole)) {
                return NONE;
            }
        }
        if (cut.length() == 46) {
            return NONE;
        }
        int row = cut.length();
        while (row > 0 && Character.isLetter(cut.charAt(row - 1))) {
            row--;
        }
        boolean isWord = " map when heat below and load above ".contains(" " + cut.substring(row) + " ");
        return isWord || row == cut.length() ? cut.length() : row;
    }

    private static void programsThatRun() {
        says(0, "VERSIONS 0 .. 3 have a PROGRAM (none at first)");
        for (int version = 0; version < VERSIONS; version++) {
            is("no line of " + version, oneTick(0, 0).run(version, 0, 0, 1), NONE);
            is("map 0 of " + version, oneTick(0, 0).run(version, 0, 0, 0), 0);
            CleanStand x = programmed(oneTick(0, 0), version, "map 3");
            for (int other = 0; other < VERSIONS; other++) {
                is("given to " + version, x.run(other, 0, 0, 0), other == version ? 3 : 0);
            }
        }
        says(0, "it takes the MAP of the first LINE all of whose TESTS hold (without TESTS: that one); MAP 0, if none does");
        CleanStand x = programmed(oneTick(0, 5), 0, "map 1 when load above 4 and load below 5;map 2 when load below 6;map 3");
        is("the last test does not hold", x.run(0, 0, 0, 1), 1);
        programmed(x, 0, "map 3;map 2");
        is("without tests", x.run(0, 0, 0, 1), 0);
        programmed(x, 0, "map 1 when load above 5;map 2 when load below 5");
        is("none", x.run(0, 0, 0, 1), NONE);
        is("none", x.run(0, 0, 0, 0), 0);
        programmed(x, 0, repeated("map 1 when load above 5", 5) + ";map 2 when load above 4 and time below 1");
        is("the sixth line", x.run(0, 0, 0, 1), 5);
    }

    // ---- Terms: runs

    private static void termsOfRuns() {
        says(0, "it begins with TANK full, nothing in the trap");
        CleanStand x = fresh();
        x.set(0, 15);
        x.set(1, 20);
        x.dose(0, 0, 10);
        loads(x, 0, 0, 0, 99, 99, 99);
        loads(x, 1, 1, 0, 99, 99, 99);
        for (int time = 0; time < 2; time++) {
            for (int drive = 0; drive < 2; drive++) {
                is("the tank", x.run(1, drive, 0, 2), 10);
                is("the trap", x.run(1, drive, 0, 4), 99 - 40);
                is("the tank goes empty", x.all(1, drive, 2), 15);
                is("the trap is emptied", x.all(1, drive, 5), 1);
            }
        }
        says(0, "RAW is LOAD and SPEED by 2, cut");
        is("nothing", oneTick(0, 0).run(0, 0, 0, 4), 0);
        is("1 by 2", oneTick(1, 0).run(0, 0, 0, 4), 0);
        is("1 by 2, and a load", oneTick(1, 9).run(0, 0, 0, 4), 9);
        is("2 by 2", oneTick(2, 0).run(0, 0, 0, 4), 1);
        is("the most", oneTick(159, 99).run(0, 0, 0, 4), 178);
        says(0, "USED is the DOSE of its MAP by SPEED, or what is left in the tank, if that is less");
        int[] tanks = {0, 9, 10, 11, 19, 20, 21};
        for (int tank : tanks) {
            CleanStand y = loads(fresh(), 0, 0, 0, 90, 90);
            y.dose(0, 0, 10);
            y.set(0, tank);
            is("the first of a tank of " + tank, y.run(0, 0, 0, 2), Math.min(10, tank));
            is("the next of a tank of " + tank, y.run(0, 0, 1, 2), Math.min(10, tank - Math.min(10, tank)));
        }
        turnedOff();
        trapOfRuns();
    }

    private static void turnedOff() {
        says(0, "TURNED OFF is 4 times USED, RAW at most; AIR is RAW less that");
        int[] raws = {0, 39, 40, 41};
        for (int raw : raws) {
            CleanStand x = oneTick(0, raw);
            x.dose(0, 0, 10);
            is("used, of " + raw, x.run(0, 0, 0, 2), 10);
            is("turned off, of " + raw, x.run(0, 0, 0, 3), Math.min(40, raw));
            is("air, of " + raw, x.run(0, 0, 0, 4), raw - Math.min(40, raw));
        }
        CleanStand most = oneTick(159, 99);
        most.dose(0, 3, 60);
        is("240 are more than 178", most.run(0, 0, 0, 3), 178);
    }

    private static void trapOfRuns() {
        says(0, "Then LOAD by 8, cut, more are in the trap");
        int[] loads = {0, 7, 8, 15, 16, 99};
        for (int load : loads) {
            is("of " + load, loads(fresh(), 0, 0, 0, load, 0).reading(0, 1, 7), load / 8);
        }
        says(0, "if that is more than TRAP: AIR is 20 more, and nothing is in the trap");
        CleanStand x = loads(fresh(), 0, 0, 0, 80, 80, 8, 8);
        x.set(1, 20);
        is("20 are not more than 20", x.run(0, 0, 1, 4), 80);
        is("20 are in the trap", x.reading(0, 2, 7), 20);
        is("21 are", x.run(0, 0, 2, 4), 28);
        is("nothing is in the trap", x.reading(0, 3, 7), 0);
        is("once", x.all(0, 0, 5), 1);
        x.dose(0, 0, 60);
        is("the 20 are not turned off", x.run(0, 0, 2, 4), 20);
        is("nor counted as such", x.run(0, 0, 2, 3), 8);
        x.set(1, 21);
        is("21 are not more than 21", x.run(0, 0, 2, 4), 0);
        is("21 are in the trap", x.reading(0, 3, 7), 21);
    }

    // ---- Terms: tests that part, spies

    private static void termsOfParting() {
        says(0, "A TEST PARTS a ROAD (with TICKS), if it holds in each TICK of each STAND and not in some TICK of that ROAD.");
        CleanStand x = loads(fresh(), 0, 0, 0, 5, 7);
        x.drive(1, 1, 0);
        is("a road without ticks", x.parts(12), 0);
        x.tick(1, 0, 7, 0, 0, 0);
        is("it holds in all of them", x.parts(12), 0);
        x.tick(1, 0, 8, 0, 0, 0);
        is("not in the last of them", x.parts(12), 2);
        x.tick(1, 0, 7, 0, 0, 0);
        is("not in one of them", x.parts(12), 2);
        x.tick(2, 0, 8, 0, 0, 0);
        is("each stand", x.parts(12), 0);
        is("a stand is not parted", loads(loads(fresh(), 0, 0, 0, 5), 5, 0, 0, 9).parts(12), 0);
        for (int road = 1; road < DRIVES; road++) {
            is("road " + road, loads(loads(fresh(), 0, 0, 0, 5), road, 1, 0, 6).parts(12), 1 << road);
            is("road " + road, loads(loads(fresh(), 0, 0, 0, 5), road, 1, 0, 4).parts(13), 1 << road);
        }
        boundsOfTests();
        fewestTests();
        spies();
    }

    private static void boundsOfTests() {
        says(0, "that below the number one greater than the greatest, and that above the number one less than the least,"
            + " of all TICKS of all STANDS (none, if these have no TICKS; none above, if the least is 0)");
        for (int test = 0; test < 16; test++) {
            is("no ticks at all", fresh().bound(test), NONE);
            is("no stand with ticks", loads(fresh(), 0, 1, 0, 9).bound(test), NONE);
            is("nothing is parted", loads(fresh(), 0, 1, 0, 9).parts(test), 0);
        }
        int[] least = {NONE, NONE, NONE, NONE, NONE, NONE, NONE, NONE};
        int[] most = {1, 10, 10, 31, 61, 160, 100, 1};
        CleanStand x = fresh();
        x.tick(0, 159, 99, -9, 30, 60);
        x.tick(5, 0, 0, 0, 0, 0);
        for (int reading = 0; reading < 8; reading++) {
            is("below, of " + WORDS[reading], x.bound(2 * reading), most[reading]);
            is("none above, of " + WORDS[reading], x.bound(2 * reading + 1), least[reading]);
            is("none parts", x.parts(2 * reading + 1), 0);
        }
        x.drive(5, 0, 0);
        int[] alone = {NONE, 8, 8, 29, 59, 158, 98, NONE};
        for (int reading = 0; reading < 8; reading++) {
            is("above, of " + WORDS[reading], x.bound(2 * reading + 1), alone[reading]);
        }
        is("above 0, if the least is 1", oneTick(1, 0).bound(11), 0);
        is("the last tick of a full stand", fullStand().bound(0), 40);
        is("turned of a full stand", fullStand().bound(4), 361);
        says(0, "numbered 2 times the READING, 1 more for above");
        is("0 time below", oneTick(1, 1).bound(0), 1);
        is("13 load above", oneTick(0, 5).bound(13), 4);
        is("14 soot below", loads(fresh(), 0, 0, 0, 80, 0).bound(14), 11);
        is("15 soot above: at first there is none", loads(fresh(), 0, 0, 0, 80, 0).bound(15), NONE);
    }

    private static CleanStand fullStand() {
        CleanStand x = fresh();
        for (int tick = 0; tick < TICKS; tick++) {
            x.tick(0, 0, 0, -9, 0, 0);
        }
        return x;
    }

    private static void fewestTests() {
        says(0, "FEWEST: the least set of these (in number; of several the least by bits) by which each ROAD that some of them"
            + " PARTS is PARTED by one at least.");
        is("there are none", fresh().fewest(), 0);
        CleanStand x = fresh();
        x.tick(0, 10, 0, 1, 10, 10);
        is("no road", x.fewest(), 0);
        x.drive(1, 1, 0);
        is("a road without ticks", x.fewest(), 0);
        x.tick(1, 10, 0, 1, 10, 10);
        is("a road that none parts", x.fewest(), 0);
        x.tick(1, 10, 0, 1, 10, 10);
        is("by time, ahead of turned", x.fewest(), 1);
        x.drive(1, 1, 0);
        x.tick(1, 11, 0, 1, 11, 10);
        is("by height, ahead of speed", x.fewest(), 64);
        x.drive(2, 1, 0);
        x.tick(2, 11, 0, 1, 10, 9);
        is("one for both, though greater", x.fewest(), 1024);
        x.drive(3, 1, 0);
        x.tick(3, 10, 0, 0, 10, 10);
        is("two, and wheel above is the least of the third", x.fewest(), 8 + 1024);
    }

    private static void spies() {
        says(0, "A SPY: one TICK of a DRIVE whose TURN becomes another one (0 .. 9) so that a VERSION takes a MAP in no TICK"
            + " from that one on; the least TURN, then the least TICK.");
        is("no ticks", fresh().spy(0, 0, 1), NONE);
        is("0 becomes 1", oneTick(0, 0).spy(0, 0, 1), 64);
        CleanStand x = fresh();
        x.tick(0, 0, 0, 9, 0, 0);
        is("9 becomes 0", x.spy(0, 0, 1), 0);
        programmed(x, 0, "map 1 when wheel below 9");
        is("9 is no other one", x.spy(0, 0, 1), NONE);
        x.drive(0, 0, 0);
        x.tick(0, 0, 0, -9, 0, 0);
        is("9 is another one than -9", x.spy(0, 0, 1), 64 * 9);
        CleanStand last = programmed(fresh(), 0, "map 1 when wheel below 9");
        for (int tick = 0; tick < TICKS; tick++) {
            last.tick(0, 0, 0, 0, 0, 0);
        }
        is("the greatest turn in the last tick", last.spy(0, 0, 1), 64 * 9 + 39);
        programmed(last, 0, "map 1 when turned below 9");
        is("the greatest turn in the first tick", last.spy(0, 0, 1), 64 * 9);
        programmed(last, 0, "map 1 when turned below 10");
        is("10 is too great", last.spy(0, 0, 1), NONE);
        programmed(last, 0, "map 1 when time below 39");
        is("from the last on", last.spy(0, 0, 1), 64 + 39);
        programmed(last, 0, "map 1 when time below 38");
        is("the least tick of two", last.spy(0, 0, 1), 64 + 38);
        programmed(last, 0, "map 1 when turned below 2 and time below 39;map 1 when turned below 1");
        is("the least turn ahead of the least tick", last.spy(0, 0, 1), 64 + 39);
        is("map 0, if none is taken", fresh().spy(0, 0, 0), NONE);
    }

    // ---- Terms: measures

    private static void termsOfMeasures() {
        says(0, "MEASURES (20 at most)");
        CleanStand x = oneTick(0, 7);
        for (int n = 1; n <= 20; n++) {
            is("measure " + n, x.measure(0, 0, 7), n);
        }
        is("21", x.measure(0, 0, 7), FULL);
        is("20 are kept", x.count(2), 20);
        is("all of them hold", x.lets(), 15);
        says(0, "what went into the AIR of a DRIVE up to a TICK, with it, together (0 .. 9999)");
        is("nothing", measured(oneTick(0, 0), 0, 0).lets(), 15);
        is("one too many", measured(oneTick(0, 0), 0, 1).lets(), 0);
        is("the most", measured(oneTick(0, 0), 0, 9999).lets(), 0);
        is("too small", oneTick(0, 0).measure(0, 0, -1), OUTSIDE);
        is("too large", oneTick(0, 0).measure(0, 0, 10000), OUTSIDE);
        is("up to the first", measured(loads(fresh(), 0, 0, 0, 3, 4), 0, 3).lets(), 15);
        is("with the last", measured(loads(fresh(), 0, 0, 0, 3, 4), 1, 7).lets(), 15);
        is("together", measured(loads(fresh(), 0, 0, 0, 3, 4), 1, 4).lets(), 0);
        CleanStand most = fresh();
        most.set(1, 20);
        for (int tick = 0; tick < TICKS; tick++) {
            most.tick(0, 159, 99, 0, 0, 0);
        }
        is("all that can be", measured(most, 39, 40 * 178 + 20 * 20).lets(), 15);
        ticksNoMore();
        partingDrives();
    }

    private static CleanStand measured(CleanStand x, int tick, int air) {
        x.measure(0, tick, air);
        return x;
    }

    private static void ticksNoMore() {
        says(0, "(none is, if such a TICK is not there any more)");
        CleanStand x = loads(fresh(), 0, 0, 0, 3, 0);
        x.measure(0, 1, 3);
        is("it is there", x.lets(), 15);
        x.drive(0, 0, 0);
        is("no ticks", x.lets(), 0);
        x.tick(0, 0, 3, 0, 0, 0);
        is("one too few", x.lets(), 0);
        is("so nothing parts", x.parting(0), NONE);
        x.tick(0, 0, 0, 0, 0, 0);
        is("it is there again", x.lets(), 15);
        x.drive(1, 1, 3);
        is("another drive's do not count", x.lets(), 15);
        is("the measure stays", x.count(2), 1);
    }

    private static void partingDrives() {
        says(0, "PARTING is the DRIVE by whose AIR, all together, of VERSIONS that are LET most unlike numbers come;"
            + " of several the least.");
        is("no ticks: one number each", fresh().parting(0), 0);
        is("no ticks: one number each", fresh().parting(1), 1);
        CleanStand x = fresh();
        for (int version = 1; version < VERSIONS; version++) {
            x.dose(version, 0, version);
            programmed(x, version, "map " + version);
        }
        loads(x, 5, 0, 0, 90);
        is("the last drive", x.parting(0), 5);
        is("four numbers", x.parting(1), 4);
        loads(x, 4, 1, 0, 90);
        is("the least of several", x.parting(0), 4);
        loads(x, 0, 1, 0, 8);
        is("three are fewer", x.parting(0), 4);
        x.measure(5, 0, 82);
        is("one is let", x.parting(0), 0);
        is("one number", x.parting(1), 1);
        x.measure(5, 0, 81);
        is("none is let", x.parting(0), NONE);
        is("no number", x.parting(1), 0);
    }

    // ---- Terms: laws

    private static void termsOfLaws() {
        says(0, "LANDS 0 and 1 have a LAW (no LINES at first).");
        for (int land = 0; land < LANDS; land++) {
            for (int version = 0; version < VERSIONS; version++) {
                is("nothing is broken", oneTick(159, 99).breaks(version, land), 0);
            }
            is("it is lawful", oneTick(159, 99).fix(3, land, 1), 0);
        }
        is("no land ahead of 0", fresh().breaks(0, -1), UNKNOWN);
        is("no land after 1", fresh().breaks(0, 2), UNKNOWN);
        gramLines();
        roadLines();
        bansAndAsks();
        cold();
    }

    private static void gramLines() {
        says(0, "gram N: some STAND (with TICKS) has more than N hundredths of AIR a TICK"
            + " (100 times AIR together above N times TICKS)");
        CleanStand x = lawed(loads(fresh(), 0, 0, 0, 1, 2), 0, "gram 149;gram 150;gram 151;gram 0;gram 999");
        is("150", x.breaks(0, 0), 1 + 8);
        is("no air", lawed(oneTick(0, 0), 0, "gram 0").breaks(0, 0), 0);
        is("some air", lawed(oneTick(0, 1), 0, "gram 0").breaks(0, 0), 1);
        is("no ticks", lawed(fresh(), 0, "gram 0").breaks(0, 0), 0);
        is("a road is no stand", lawed(loads(fresh(), 0, 1, 0, 99), 0, "gram 0").breaks(0, 0), 0);
        is("the last drive", lawed(loads(fresh(), 5, 0, 0, 99), 0, "gram 999").breaks(0, 0), 1);
        is("the eighth line", lawed(oneTick(0, 9), 0, repeated("gram 900", 7) + ";gram 899").breaks(0, 0), 128);
        CleanStand each = lawed(loads(loads(fresh(), 0, 0, 0, 2), 1, 0, 0, 4), 0, "gram 300;gram 400");
        is("some, not all together", each.breaks(0, 0), 1);
    }

    private static void roadLines() {
        says(0, "N being the least of its gram LINES (10000 times AIR together above N times P times TICKS; none without a gram)");
        CleanStand x = loads(fresh(), 0, 1, 0, 3, 3);
        is("300 are not more than 150 of 200", lawed(x, 0, "gram 200;road 150").breaks(0, 0), 0);
        is("300 are more than 149 of 200", lawed(x, 0, "gram 200;road 149").breaks(0, 0), 2);
        CleanStand one = lawed(loads(fresh(), 0, 1, 0, 1), 0, "gram 99;road 101;road 102");
        is("10000 are more than 99 times 101, not than 99 times 102", one.breaks(0, 0), 2);
        is("the least is the last", lawed(x, 0, "road 150;gram 999;gram 199").breaks(0, 0), 1);
        is("the least is the first", lawed(x, 0, "gram 199;road 150;gram 999").breaks(0, 0), 2);
        is("no gram", lawed(x, 0, "road 0").breaks(0, 0), 0);
        is("a gram of 0", lawed(x, 0, "gram 0;road 999").breaks(0, 0), 2);
        is("a road of 0", lawed(x, 0, "gram 999;road 0").breaks(0, 0), 2);
        is("the most of both", lawed(x, 0, "gram 999;road 999").breaks(0, 0), 0);
        is("no ticks", lawed(loads(fresh(), 0, 1, 0), 0, "gram 0;road 0").breaks(0, 0), 0);
        is("a stand is no road", lawed(oneTick(0, 0), 0, "gram 0;road 0").breaks(0, 0), 0);
        is("no air", lawed(loads(fresh(), 0, 1, 0, 0), 0, "gram 0;road 0").breaks(0, 0), 0);
        CleanStand most = fresh();
        most.drive(5, 1, 0);
        for (int tick = 0; tick < TICKS; tick++) {
            most.tick(5, 159, 99, 0, 0, 0);
        }
        most.set(1, 20);
        is("the most air of the most ticks", lawed(most, 0, "gram 999;road 999").breaks(0, 0), 2);
    }

    private static void bansAndAsks() {
        says(0, "ban R: a TEST of its PROGRAM is of R; ask R: so, and it was not TOLD to that LAND.");
        for (int reading = 0; reading < 8; reading++) {
            String law = "ban " + WORDS[reading] + ";ask " + WORDS[reading];
            CleanStand x = lawed(lawed(fresh(), 0, law), 1, law);
            is("no program", x.breaks(0, 0), 0);
            programmed(x, 0, "map 1");
            is("no tests", x.breaks(0, 0), 0);
            programmed(x, 0, repeated("map 0", 5) + ";map 1 when " + WORDS[(reading + 1) % 8] + " below 0 and "
                + WORDS[(reading + 2) % 8] + " below 0 and " + WORDS[reading] + " below 0");
            is("a test of " + WORDS[reading], x.breaks(0, 0), 3);
            x.ask(0, 0, reading);
            is("asked", x.breaks(0, 0), 3);
            x.tell(0);
            is("told", x.breaks(0, 0), 1);
            is("not to the other land", x.breaks(0, 1), 3);
        }
        CleanStand x = lawed(programmed(fresh(), 0, "map 0 when heat below 1"), 0, "ask heat");
        x.ask(0, 0, 4);
        x.tell(0);
        programmed(x, 0, "map 1 when heat above 9");
        is("told of the version, whatever program it has", x.breaks(0, 0), 0);
    }

    private static void cold() {
        says(0, "of TICKS of all ROADS in which it does not take MAP m, those with HEAT below h: how many, of how many.");
        CleanStand x = fresh();
        x.tick(1, 0, 0, 0, 0, 0);
        is("no road", x.cold(0, 1, 61, 1), 0);
        x.drive(0, 1, 0);
        is("no ticks", x.cold(0, 1, 61, 1), 0);
        x.tick(0, 0, 0, 0, 0, 0);
        x.tick(0, 0, 0, 0, 0, 60);
        is("below 0 is none", x.cold(0, 1, 0, 0), 0);
        is("of two", x.cold(0, 1, 0, 1), 2);
        is("below 1", x.cold(0, 1, 1, 0), 1);
        is("60 is not below 60", x.cold(0, 1, 60, 0), 1);
        is("60 is below 61", x.cold(0, 1, 61, 0), 2);
        is("it takes map 0", x.cold(0, 0, 61, 0), 0);
        is("it takes map 0", x.cold(0, 0, 61, 1), 0);
        CleanStand most = fresh();
        for (int drive = 0; drive < DRIVES; drive++) {
            most.drive(drive, 1, 0);
            for (int tick = 0; tick < TICKS; tick++) {
                most.tick(drive, 0, 0, 0, 0, 7);
            }
        }
        is("all that can be", most.cold(3, 3, 8, 0), 240);
    }

    // ---- Terms: tanks

    private static void termsOfTanks() {
        says(0, "how often all USED of a DRIVE, when a VERSION RUNS it, goes into TANK (9999 at most; 9999, if nothing is USED)");
        int[][] rows = {{9999, 1, 9999}, {9999, 2, 4999}, {1, 1, 1}, {59, 30, 1}, {60, 30, 2}, {61, 30, 2}, {30, 31, 1},
            {0, 5, 9999}, {0, 0, 9999}, {9999, 0, 9999}, {9999, 60, 166}};
        for (int[] row : rows) {
            CleanStand x = oneTick(0, 0);
            x.set(0, row[0]);
            x.dose(0, 0, row[1]);
            is("a tank of " + row[0] + " by " + row[1], x.lasts(0, 0), row[2]);
        }
        says(0, "SAVES: what one VERSION USED less than another one on all ROADS together.");
        CleanStand x = fresh();
        x.dose(1, 0, 60);
        x.set(0, 9999);
        programmed(x, 3, "map 1");
        is("no road", x.saves(0, 3), 0);
        for (int drive = 0; drive < DRIVES; drive++) {
            x.drive(drive, 1, 0);
            for (int tick = 0; tick < TICKS; tick++) {
                x.tick(drive, 0, 0, 0, 0, 0);
            }
        }
        is("the most", x.saves(0, 3), 14400);
        is("the least", x.saves(3, 0), -14400);
        is("itself", x.saves(3, 3), 0);
        x.drive(0, 0, 0);
        x.tick(0, 0, 0, 0, 0, 0);
        is("stands do not count", x.saves(0, 3), 12000);
    }

    // ---- Terms: fixes

    private static void termsOfFixes() {
        says(0, "CARS of a VERSION (0 .. 9999; 0 at first).");
        keptOfVersions(0, 9999);
        says(0, "costs its FEE (0 .. 999; 0 at first; to itself nothing)");
        keptOfVersions(1, 999);
        CleanStand x = dirtyButTwo();
        x.cars(2, 1, 999);
        is("a fee of 999", x.fix(0, 0, 1), 999 + 1);
        is("to itself", x.fix(2, 0, 1), 0);
        x.cars(2, 1, 0);
        is("a fee of 0", x.fix(0, 0, 1), 1);
        says(0, "for what is USED more on all ROADS together 1 each");
        is("to more", x.fix(0, 0, 1), 1);
        x.dose(0, 0, 1);
        is("to as much", x.fix(0, 0, 1), 0);
        x.dose(0, 0, 2);
        programmed(x, 3, "map 2");
        x.dose(2, 0, 60);
        is("to less", x.fix(3, 0, 1), 0);
        says(0, "BUYING BACK costs PRICE (0 .. 99999; 1000 at first)");
        CleanStand y = lawed(oneTick(0, 9), 0, "gram 0");
        is("1000 at first", y.fix(0, 0, 1), 1000);
        is("1000 at first", y.set(2, 99999), 1000);
        is("the most", y.fix(0, 0, 1), 99999);
        is("too large", y.set(2, 100000), OUTSIDE);
        is("too small", y.set(2, -1), OUTSIDE);
        is("it stays", y.set(2, 0), 99999);
        is("the least", y.fix(0, 0, 1), 0);
        cheapest();
    }

    private static void keptOfVersions(int what, int most) {
        for (int version = 0; version < VERSIONS; version++) {
            CleanStand x = fresh();
            is("0 at first", x.cars(version, what, most), 0);
            is("too large", x.cars(version, what, most + 1), OUTSIDE);
            is("too small", x.cars(version, what, -1), OUTSIDE);
            is("the most is kept", x.cars(version, what, 0), most);
            is("the least is kept", x.cars(version, what, 0), 0);
        }
    }

    /** A stand that only version 2 leaves clean, using 1 in its tick and in one of a road; the law wants it clean. */
    private static CleanStand dirtyButTwo() {
        CleanStand x = loads(loads(fresh(), 0, 0, 0, 4), 1, 1, 0, 4);
        x.dose(1, 0, 1);
        return lawed(programmed(programmed(x, 2, "map 1"), 0, "map 0 when load below 9"), 0, "gram 0;ban load");
    }

    private static void cheapest() {
        says(0, "that with the least cost (of several the least), BUYING BACK, if that costs less, or there is none");
        is("the least of four", fresh().fix(3, 0, 0), 0);
        CleanStand x = dirtyButTwo();
        x.set(2, 1);
        is("1 is not less than 1", x.fix(3, 0, 0), 2);
        x.set(2, 0);
        is("0 is less than 1", x.fix(3, 0, 0), 4);
        is("0 is not less than 0", x.fix(2, 0, 0), 2);
        x.set(2, 99999);
        programmed(x, 2, "map 0");
        is("there is none", x.fix(2, 0, 0), 4);
        CleanStand lawful = fresh();
        for (int version = 0; version < VERSIONS; version++) {
            lawful.cars(version, 1, 5);
        }
        for (int version = 0; version < VERSIONS; version++) {
            is("itself costs nothing", lawful.fix(version, 1, 0), version);
        }
    }

    // ---- Terms: looks

    private static void termsOfLooks() {
        says(0, "DRIVES cost 0 .. 99 each (1 at first) to look at.");
        for (int drive = 0; drive < DRIVES; drive++) {
            CleanStand x = loads(fresh(), drive, 0, 0, 9);
            is("1 at first", x.looks(0, 1), 1);
            is("1 at first", x.cost(drive, 99), 1);
            is("the most", x.looks(0, 1), 99);
            is("too large", x.cost(drive, 100), OUTSIDE);
            is("too small", x.cost(drive, -1), OUTSIDE);
            is("it stays", x.cost(drive, 0), 99);
            is("the least", x.looks(0, 1), 0);
            is("the look at " + drive, x.looks(0, 0), 1 << drive);
        }
        says(0, "CAUGHT is a VERSION by a DRIVE with TICKS, if it has more than so many hundredths of AIR a TICK on it.");
        is("no ticks", fresh().looks(0, 2), 0);
        is("no air", oneTick(0, 0).looks(0, 2), 0);
        is("0 are less than some", oneTick(0, 1).looks(0, 2), 15);
        is("150 are not more than 150", loads(fresh(), 0, 0, 0, 1, 2).looks(150, 2), 0);
        is("150 are more than 149", loads(fresh(), 0, 0, 0, 1, 2).looks(149, 2), 15);
        is("the most air", oneTick(159, 99).looks(17799, 2), 15);
        is("the most air", oneTick(159, 99).looks(17800, 2), 0);
        is("on a road also", loads(fresh(), 5, 1, 0, 9).looks(899, 0), 32);
        says(0, "BEST LOOKS: a set of DRIVES with the least costs by which each VERSION that some DRIVE catches is CAUGHT;"
            + " of several the least number (bits).");
        is("none is caught", fresh().looks(0, 0), 0);
        is("none costs nothing", fresh().looks(0, 1), 0);
        CleanStand x = loads(loads(loads(fresh(), 1, 0, 0, 9), 2, 1, 0, 9), 5, 0, 0, 9);
        is("the least number", x.looks(0, 0), 2);
        x.cost(1, 2);
        is("the least costs", x.looks(0, 0), 4);
        x.cost(5, 0);
        is("the least costs", x.looks(0, 0), 32);
        x.cost(1, 0);
        x.cost(2, 0);
        is("none of those that cost nothing beside", x.looks(0, 0), 2);
        is("one that none need look at", loads(fresh(), 4, 0, 0, 0).looks(0, 0), 0);
        CleanStand free = oneTick(0, 9);
        for (int drive = 0; drive < DRIVES; drive++) {
            free.cost(drive, 0);
        }
        is("where none costs anything", free.looks(0, 0), 1);
        is("where none costs anything and none is caught", free.looks(900, 0), 0);
    }

    // ---- Terms: months, streets

    private static void termsOfMonths() {
        says(0, "THE MONTH is 0 at first, 200 at most.");
        CleanStand x = fresh();
        is("0 at first", x.count(0), 0);
        x.months(60);
        x.months(60);
        x.months(60);
        is("201", x.months(21), OUTSIDE);
        is("it stays", x.count(0), 180);
        is("200", x.months(20), 200);
        is("201", x.months(1), OUTSIDE);
        is("200 stays", x.count(0), 200);
        says(0, "ASKED (20 at most) is a LAND of a READING of a VERSION in THE MONTH");
        for (int asked = 0; asked < 20; asked++) {
            is("its number", x.ask(asked % 2, asked % 4, asked % 8), asked);
        }
        is("21", x.ask(0, 0, 0), FULL);
        is("20 are kept", x.count(3), 20);
        says(0, "it is TOLD so in a MONTH not ahead of it, or never");
        is("never", x.known(1, 3, 200), 0);
        is("in the same month", x.tell(19), 1);
        is("not ahead of it", x.known(1, 3, 199), 0);
        is("in it", x.known(1, 3, 200), 8);
        says(0, "KNOWN to a LAND by a MONTH: READINGS of a VERSION of which it was TOLD by then.");
        CleanStand y = fresh();
        y.ask(0, 0, 0);
        y.ask(0, 0, 7);
        y.tell(0);
        is("in month 0", y.known(0, 0, 0), 1);
        y.months(9);
        y.tell(1);
        is("a month ahead", y.known(0, 0, 8), 1);
        is("in that month", y.known(0, 0, 9), 129);
        is("ever after", y.known(0, 0, 200), 129);
        is("not to the other land", y.known(1, 0, 200), 0);
        is("not of another version", y.known(0, 1, 200), 0);
        winds();
    }

    private static void winds() {
        says(0, "by WIND (0 .. 100 hundredths; 0 at first) so much of what is of the STREET ahead (3 for 0), cut, comes to it,"
            + " and leaves that one.");
        for (int street = 0; street < STREETS; street++) {
            int next = (street + 1) % 4;
            CleanStand x = loads(fresh(), 0, 1, street, 99);
            x.cars(1, 0, 1);
            is("0 at first", x.set(3, 0), 0);
            is("no wind", x.comes(street), 99);
            is("no wind", x.comes(next), 0);
            x.set(3, 1);
            is("99 hundredths are cut", x.comes(next), 0);
            is("99 hundredths are cut", x.comes(street), 99);
            x.set(3, 2);
            is("198 hundredths are cut", x.comes(next), 1);
            is("198 hundredths are cut", x.comes(street), 98);
            x.set(3, 100);
            is("all of it comes", x.comes(next), 99);
            is("all of it leaves", x.comes(street), 0);
            is("no street more", x.comes((street + 2) % 4), 0);
            is("too much", x.set(3, 101), OUTSIDE);
            is("too little", x.set(3, -1), OUTSIDE);
            is("it stays", x.set(3, 0), 100);
        }
        CleanStand each = fresh();
        for (int street = 0; street < STREETS; street++) {
            loads(each, street, 1, street, 10 * street + 10);
        }
        each.cars(0, 0, 1);
        each.set(3, 100);
        long[] around = {40, 10, 20, 30};
        for (int street = 0; street < STREETS; street++) {
            is("all goes one on", each.comes(street), around[street]);
        }
    }

    private static void termsOfRefusals() {
        says(0, "Refused, and nothing changes: UNKNOWN (no such DRIVE, TICK, MAP, VERSION, LAND, STREET, what was ASKED),"
            + " OUTSIDE (another number is not as told), NOT (not now: as told), FULL: the first of these that fits.");
        CleanStand x = fresh();
        for (int tick = 0; tick < TICKS; tick++) {
            x.tick(0, 0, 0, 0, 0, 0);
        }
        is("UNKNOWN ahead of OUTSIDE", x.tick(6, 160, 0, 0, 0, 0), UNKNOWN);
        is("OUTSIDE ahead of FULL", x.tick(0, 160, 0, 0, 0, 0), OUTSIDE);
        is("FULL", x.tick(0, 159, 0, 0, 0, 0), FULL);
        is("UNKNOWN ahead of NOT", x.program(4), UNKNOWN);
        is("NOT", x.program(3), NOT);
        is("UNKNOWN ahead of NOT", x.law(2), UNKNOWN);
        is("NOT", x.law(1), NOT);
        is("UNKNOWN ahead of NOT", x.lasts(4, 1), UNKNOWN);
        is("NOT", x.lasts(3, 1), NOT);
        is("the last number is UNKNOWN, one ahead of it OUTSIDE", x.drive(0, 2, 4), UNKNOWN);
        is("nothing has changed", x.count(5), 40);
    }

    // ---- promises: drives, maps

    private static void promisesOfDrives() {
        says(1, "Nothing told, MONTH 0.");
        for (int what = 0; what <= 5; what++) {
            is("count " + what, fresh().count(what), 0);
        }
        is("no text", fresh().erase(), 0);
        is("nothing asked", fresh().tell(0), UNKNOWN);
        is("each version is let", fresh().lets(), 15);
        says(2, "A DRIVE becomes of a SORT, in a STREET, without TICKS: 1.");
        for (int drive = 0; drive < DRIVES; drive++) {
            CleanStand x = loads(fresh(), drive, 0, 3, 9, 9);
            is("drive " + drive, x.drive(drive, 1, 0), 1);
            is("without ticks", x.count(5), 0);
            is("also one without ticks", x.drive(drive, 0, 3), 1);
        }
        says(2, "UNKNOWN: DRIVE, STREET; OUTSIDE.");
        CleanStand x = loads(fresh(), 5, 1, 3, 9);
        is("no sort", x.drive(5, -1, 0), OUTSIDE);
        is("no sort", x.drive(5, 2, 0), OUTSIDE);
        is("no drive, no sort", x.drive(-1, 2, 0), UNKNOWN);
        is("no street, no sort", x.drive(5, -1, 4), UNKNOWN);
        is("its ticks are there", x.count(5), 1);
        says(3, "A TICK more of a DRIVE: how many. UNKNOWN; OUTSIDE; FULL.");
        is("how many", x.tick(5, 0, 0, 0, 0, 0), 2);
        is("of this drive", x.tick(0, 0, 0, 0, 0, 0), 1);
        says(4, "DOSE of a MAP in a class: that which it was. UNKNOWN; OUTSIDE.");
        is("it was", x.dose(3, 3, 60), 0);
        is("the same again", x.dose(3, 3, 60), 60);
        is("no map, no class", x.dose(4, 4, 61), UNKNOWN);
        is("no class", x.dose(3, 4, 60), OUTSIDE);
        is("no dose", x.dose(3, 3, 61), OUTSIDE);
        is("it stays", x.dose(3, 3, 1), 60);
        settings();
    }

    private static void settings() {
        says(5, "TANK (what 0), TRAP (1), PRICE (2), WIND (3): that which it was. OUTSIDE.");
        int[] first = {1000, 100, 1000, 0};
        int[] least = {0, 20, 0, 0};
        int[] most = {9999, 999, 99999, 100};
        for (int what = 0; what < 4; what++) {
            CleanStand x = fresh();
            is("too small", x.set(what, least[what] - 1), OUTSIDE);
            is("too large", x.set(what, most[what] + 1), OUTSIDE);
            is("it was", x.set(what, least[what]), first[what]);
            is("the least", x.set(what, most[what]), least[what]);
            is("the most", x.set(what, most[what]), most[what]);
            for (int other = 0; other < 4; other++) {
                is("the others stay", x.set(other, 20), other == what ? most[what] : first[other]);
            }
        }
        is("no such", fresh().set(-1, 20), OUTSIDE);
        is("no such", fresh().set(4, 20), OUTSIDE);
        says(6, "A READING (0 .. 7) in a TICK of a DRIVE (whatever VERSION RUNS it). UNKNOWN; OUTSIDE.");
        CleanStand x = oneTick(60, 50);
        is("the first", x.reading(0, 0, 0), 0);
        is("the last", x.reading(0, 0, 7), 0);
        is("too small", x.reading(0, 0, -1), OUTSIDE);
        is("too large", x.reading(0, 0, 8), OUTSIDE);
        is("no tick, too large", x.reading(0, 1, 8), UNKNOWN);
        is("no drive, too large", x.reading(6, 0, 8), UNKNOWN);
    }

    // ---- promises: texts

    private static void promisesOfTexts() {
        says(7, "n (1 .. 8) bytes more of THE TEXT, byte i being bytes >> 8 i & 255: how many it has. OUTSIDE; FULL.");
        CleanStand x = fresh();
        is("none", x.write(0, 0), OUTSIDE);
        is("nine", x.write(0, 9), OUTSIDE);
        is("one", x.write('m', 1), 1);
        is("eight", x.write(0x20_33_20_20_20_20_70_61L, 8), 9);
        is("'map    3 '", x.fault(0), NONE);
        x.erase();
        is("bytes beyond n do not count", x.write(0x7f_7f_7f_33_20_70_61_6dL, 5), 5);
        is("'map 3'", x.fault(0), NONE);
        is("a number below 0", x.write(-1, 8), 13);
        is("is of bytes 255", x.fault(0), 5);
        is("the sign is the eighth byte's", written(fresh(), "map 0").write(Long.MIN_VALUE | 0x20202020202020L, 8), 13);
        CleanStand top = written(fresh(), "map 0");
        top.write(Long.MIN_VALUE | 0x20202020202020L, 8);
        is("128 cannot stand there", top.fault(0), 12);
        for (int n = 1; n <= 8; n++) {
            is("full with " + n, written(fresh(), " ".repeat(160 - n)).write(0, n), 160);
            is("too full with " + n, written(fresh(), " ".repeat(161 - n)).write(0, n), FULL);
            CleanStand full = written(fresh(), " ".repeat(161 - n));
            full.write(0, n);
            is("no byte of them is taken", full.count(1), 161 - n);
        }
        says(8, "THE TEXT is empty: how many bytes it had.");
        is("it was empty", fresh().erase(), 0);
        is("it was full", written(fresh(), " ".repeat(160)).erase(), 160);
        CleanStand erased = written(fresh(), " ".repeat(160));
        erased.erase();
        is("there is room again", erased.write(0, 8), 8);
        textsBecome();
    }

    private static void textsBecome() {
        says(9, "(the byte with which the TOKEN begins, or the length); NONE. OUTSIDE.");
        is("the token begins after blanks", fault(0, "map    12"), 7);
        is("the length with blanks", fault(0, "map 0;   "), 9);
        is("none", fault(0, " map 0 "), NONE);
        is("an empty program", fault(0, ""), 0);
        is("an empty law", fault(1, ""), 0);
        is("too small", fresh().fault(-1), OUTSIDE);
        is("too large", fresh().fault(2), OUTSIDE);
        says(10, "THE TEXT becomes the PROGRAM of a VERSION, and is empty then: how many LINES. UNKNOWN; NOT: it has a FAULT.");
        CleanStand x = programmed(oneTick(0, 0), 3, "map 3");
        is("empty", x.program(3), NOT);
        written(x, "map 2;map 4");
        is("a fault in the second line", x.program(3), NOT);
        is("no version", x.program(4), UNKNOWN);
        is("the text stays", x.count(1), 11);
        is("the program stays", x.run(3, 0, 0, 0), 3);
        x.erase();
        is("the most lines", written(x, repeated("map 1", 6)).program(3), 6);
        is("the text is empty", x.count(1), 0);
        is("it has not become another's", x.program(2), NOT);
        is("fewer lines than ahead of it", written(x, "map 2 when load above 0").program(3), 1);
        is("nothing is left of the lines ahead of it", x.run(3, 0, 0, 1), NONE);
        is("tests, where there were none", written(x, "map 3 when load above 0;map 1").program(3), 2);
        is("no tests, where there were some", written(x, "map 2").program(3), 1);
        is("and of those once replaced none comes back", written(x, "map 3").program(3), 1);
        is("nothing is left of their tests", x.run(3, 0, 0, 0), 3);
        says(11, "THE TEXT becomes the LAW of a LAND, and is empty then: how many LINES. UNKNOWN; NOT: it has a FAULT.");
        CleanStand y = lawed(oneTick(0, 9), 1, repeated("gram 0", 8));
        is("empty", y.law(1), NOT);
        written(y, "gram 5;gram 1000");
        is("a fault in the second line", y.law(1), NOT);
        is("no land", y.law(2), UNKNOWN);
        is("the text stays", y.count(1), 16);
        is("the law stays", y.breaks(0, 1), 255);
        y.erase();
        is("fewer lines than ahead of it", written(y, "gram 1").law(1), 1);
        is("nothing is left of the lines ahead of it", y.breaks(0, 1), 1);
    }

    // ---- promises: runs

    private static void promisesOfRuns() {
        says(12, "the MAP (what 0), the LINE (1; NONE), USED (2), TURNED OFF (3), AIR (4). UNKNOWN; OUTSIDE.");
        CleanStand x = oneTick(0, 50);
        x.dose(0, 0, 10);
        int[] want = {OUTSIDE, 0, NONE, 10, 40, 10, OUTSIDE};
        for (int what = -1; what <= 5; what++) {
            is("what " + what, x.run(0, 0, 0, what), want[what + 1]);
        }
        is("no tick, no what", x.run(0, 0, 1, 5), UNKNOWN);
        is("no tick of a drive without", x.run(0, 1, 0, 0), UNKNOWN);
        says(13, "USED (what 2), TURNED OFF (3), AIR (4), how often the trap was emptied (5). UNKNOWN; OUTSIDE.");
        int[] all = {OUTSIDE, 10, 40, 10, 0, OUTSIDE};
        for (int what = 1; what <= 6; what++) {
            is("what " + what, x.all(0, 0, what), all[what - 1]);
            is("without ticks, what " + what, x.all(0, 1, what), what == 1 || what == 6 ? OUTSIDE : 0);
            is("no drive, what " + what, x.all(0, 6, what), UNKNOWN);
        }
        says(14, "ROADS that a TEST that may part (0 .. 15) PARTS, by bits of DRIVES. OUTSIDE.");
        CleanStand roads = loads(fresh(), 0, 0, 0, 5);
        for (int drive = 1; drive < DRIVES; drive++) {
            loads(roads, drive, 1, 0, 4 + drive % 3);
        }
        is("all greater", roads.parts(12), 4 + 32);
        is("all less", roads.parts(13), 8);
        is("the last", roads.parts(15), 0);
        is("too small", roads.parts(-1), OUTSIDE);
        is("too large", roads.parts(16), OUTSIDE);
        says(15, "The number in such a TEST (below or above which); NONE: there is no such. OUTSIDE.");
        is("below", roads.bound(12), 6);
        is("above", roads.bound(13), 4);
        is("none", roads.bound(15), NONE);
        is("too small", roads.bound(-1), OUTSIDE);
        is("too large", roads.bound(16), OUTSIDE);
        says(16, "FEWEST, by bits.");
        is("two", roads.fewest(), 4096 + 8192);
        says(17, "A SPY: 64 TURN and TICK; NONE: there is none. UNKNOWN: also the MAP.");
        is("none", roads.spy(0, 0, 0), NONE);
        is("a map that is not taken", roads.spy(0, 0, 3), 64);
        is("too small", roads.spy(0, 0, -1), UNKNOWN);
        is("too large", roads.spy(0, 0, 4), UNKNOWN);
    }

    // ---- promises: measures, laws

    private static void promisesOfMeasures() {
        says(18, "A MEASURE: how many. UNKNOWN: DRIVE, TICK; OUTSIDE; FULL.");
        CleanStand x = loads(fresh(), 5, 1, 0, 9);
        is("the first", x.measure(5, 0, 9999), 1);
        is("the same again", x.measure(5, 0, 9999), 2);
        is("no tick, no air", x.measure(5, 1, 10000), UNKNOWN);
        is("no drive, no air", x.measure(6, 0, 10000), UNKNOWN);
        is("no air", x.measure(5, 0, 10000), OUTSIDE);
        says(19, "VERSIONS that are LET, by bits.");
        is("none", x.lets(), 0);
        is("all", fresh().lets(), 15);
        says(20, "PARTING: the DRIVE (what 0), how many unlike numbers (1). NONE: no VERSION is LET (0), 0 (1). OUTSIDE.");
        is("no drive", x.parting(0), NONE);
        is("no numbers", x.parting(1), 0);
        is("too small", x.parting(-1), OUTSIDE);
        is("too large", x.parting(2), OUTSIDE);
        says(21, "LINES of the LAW of a LAND that a VERSION BREAKS, by bits. UNKNOWN.");
        CleanStand y = lawed(oneTick(0, 9), 1, repeated("gram 0", 8));
        is("all eight", y.breaks(3, 1), 255);
        is("none", y.breaks(3, 0), 0);
        is("no version", y.breaks(4, 1), UNKNOWN);
        is("no land", y.breaks(3, 2), UNKNOWN);
        says(22, "COLD: how many (part 0), of how many (1). UNKNOWN: also the MAP; OUTSIDE: heat not 0 .. 61.");
        is("the least heat", x.cold(0, 1, 0, 0), 0);
        is("the most heat", x.cold(0, 1, 61, 0), 1);
        is("of how many", x.cold(0, 1, 0, 1), 1);
        is("too small", x.cold(0, 1, -1, 1), OUTSIDE);
        is("too large", x.cold(0, 1, 62, 1), OUTSIDE);
        is("no part", x.cold(0, 1, 61, 2), OUTSIDE);
        is("no part", x.cold(0, 1, 61, -1), OUTSIDE);
        is("no map, no part", x.cold(0, 4, 61, 2), UNKNOWN);
        is("no version, no heat", x.cold(4, 0, 62, 0), UNKNOWN);
    }

    // ---- promises: tanks, fixes, looks

    private static void promisesOfFixes() {
        says(23, "LASTS. UNKNOWN; NOT: the DRIVE has no TICKS.");
        CleanStand x = loads(fresh(), 5, 1, 0, 9);
        is("no ticks", x.lasts(3, 4), NOT);
        is("ticks", x.lasts(3, 5), 9999);
        x.drive(5, 1, 0);
        is("no ticks any more", x.lasts(3, 5), NOT);
        is("no drive", x.lasts(3, 6), UNKNOWN);
        says(24, "SAVES (it may be below 0). The least int: UNKNOWN.");
        is("no version", x.saves(4, 0), LEAST);
        is("no other", x.saves(0, -1), LEAST);
        is("neither", x.saves(-1, 4), LEAST);
        says(25, "CARS (what 0), FEE (1) of a VERSION: that which it was. UNKNOWN; OUTSIDE.");
        is("1000 cars", x.cars(3, 0, 1000), 0);
        is("1000 are too much of a fee", x.cars(3, 1, 1000), OUTSIDE);
        is("the fee stays", x.cars(3, 1, 0), 0);
        is("no what", x.cars(3, 2, 0), OUTSIDE);
        is("no what", x.cars(3, -1, 0), OUTSIDE);
        is("no version, no what", x.cars(4, 2, 0), UNKNOWN);
        is("the cars stay", x.cars(3, 0, 0), 1000);
        says(26, "the VERSION to which (what 0; 4: BUYING BACK), its cost (1). UNKNOWN; OUTSIDE.");
        CleanStand y = lawed(oneTick(0, 9), 0, "gram 0");
        is("4", y.fix(3, 0, 0), 4);
        is("its cost", y.fix(3, 0, 1), 1000);
        is("no what", y.fix(3, 0, 2), OUTSIDE);
        is("no what", y.fix(3, 0, -1), OUTSIDE);
        is("no land, no what", y.fix(3, 2, 2), UNKNOWN);
        is("no version, no what", y.fix(4, 0, 2), UNKNOWN);
        owedAndLooks(y);
    }

    private static void owedAndLooks(CleanStand y) {
        says(27, "CHEAPEST for all CARS of all VERSIONS in a LAND, all costs together; 999999999 at most. UNKNOWN.");
        is("no cars", y.owed(0), 0);
        y.set(2, 99999);
        y.cars(0, 0, 9999);
        is("below the most", y.owed(0), 9999 * 99999);
        y.cars(1, 0, 1);
        is("1 below the most", y.owed(0), 999990000);
        y.cars(1, 0, 2);
        is("above the most", y.owed(0), 999999999);
        for (int version = 0; version < VERSIONS; version++) {
            y.cars(version, 0, 9999);
        }
        is("far above the most", y.owed(0), 999999999);
        y.set(2, 27778);
        is("above the most by little", y.owed(0), 999999999);
        for (int version = 0; version < VERSIONS; version++) {
            y.cars(version, 0, version == 0 ? 9999 : version == 1 ? 1001 : 0);
        }
        y.set(2, 90909);
        is("just below", y.owed(0), 11000 * 90909);
        y.cars(2, 0, 1);
        is("just above", y.owed(0), 999999999);
        is("no land", y.owed(2), UNKNOWN);
        is("no land", y.owed(-1), UNKNOWN);
        says(28, "What it costs to look at a DRIVE: that which it was. UNKNOWN; OUTSIDE.");
        is("it was", y.cost(5, 99), 1);
        is("it was", y.cost(5, 0), 99);
        is("too large", y.cost(5, 100), OUTSIDE);
        is("no drive, too large", y.cost(6, 100), UNKNOWN);
        is("it stays", y.cost(5, 1), 0);
        says(29, "BEST LOOKS by so many hundredths (0 .. 99999): DRIVES (bits; what 0), costs (1), VERSIONS that are CAUGHT");
        is("the least", y.looks(0, 2), 15);
        is("the most", y.looks(99999, 2), 0);
        is("too small", y.looks(-1, 0), OUTSIDE);
        is("too large", y.looks(100000, 0), OUTSIDE);
        is("no what", y.looks(0, 3), OUTSIDE);
        is("no what", y.looks(0, -1), OUTSIDE);
    }

    // ---- promises: asking, streets

    private static void promisesOfAsking() {
        says(30, "n MONTHS (1 .. 60) go by: THE MONTH. OUTSIDE: also beyond 200.");
        CleanStand x = fresh();
        is("none", x.months(0), OUTSIDE);
        is("back", x.months(-1), OUTSIDE);
        is("61", x.months(61), OUTSIDE);
        is("far", x.months(MOST), OUTSIDE);
        is("1", x.months(1), 1);
        is("60", x.months(60), 61);
        x.months(60);
        x.months(60);
        is("beyond", x.months(20), OUTSIDE);
        is("just there", x.months(19), 200);
        is("beyond", x.months(1), OUTSIDE);
        says(31, "A LAND ASKED of a READING of a VERSION: its number. UNKNOWN; OUTSIDE; FULL.");
        is("the first", x.ask(1, 3, 7), 0);
        is("the same again", x.ask(1, 3, 7), 1);
        is("no reading", x.ask(1, 3, 8), OUTSIDE);
        is("no reading", x.ask(1, 3, -1), OUTSIDE);
        is("no version, no reading", x.ask(1, 4, 8), UNKNOWN);
        is("no land, no reading", x.ask(2, 3, 8), UNKNOWN);
        says(32, "What was ASKED is TOLD in THE MONTH: 1. UNKNOWN; NOT: it was.");
        is("not asked", x.tell(2), UNKNOWN);
        is("not asked", x.tell(-1), UNKNOWN);
        is("told", x.tell(1), 1);
        is("it was", x.tell(1), NOT);
        is("the same, asked apart", x.tell(0), 1);
        is("both are told", x.count(4), 2);
        says(33, "READINGS of a VERSION that are KNOWN to a LAND by a MONTH (0 .. 200), by bits. UNKNOWN; OUTSIDE.");
        is("the last month", x.known(1, 3, 200), 128);
        is("the first month", x.known(1, 3, 0), 0);
        is("too early", x.known(1, 3, -1), OUTSIDE);
        is("too late", x.known(1, 3, 201), OUTSIDE);
        is("no version, too late", x.known(1, 4, 201), UNKNOWN);
        is("no land, too late", x.known(2, 3, 201), UNKNOWN);
        says(34, "COMES to a STREET; -2: UNKNOWN.");
        is("no street", x.comes(-1), -2);
        is("no street", x.comes(4), -2);
        is("more than an int", mostOfAll().comes(0), 4L * 9999 * 6 * (40 * 178 + 20 * 20));
        counts();
    }

    private static CleanStand mostOfAll() {
        CleanStand x = fresh();
        x.set(1, 20);
        for (int drive = 0; drive < DRIVES; drive++) {
            x.drive(drive, 1, 0);
            for (int tick = 0; tick < TICKS; tick++) {
                x.tick(drive, 159, 99, 0, 0, 0);
            }
        }
        for (int version = 0; version < VERSIONS; version++) {
            x.cars(version, 0, 9999);
        }
        return x;
    }

    private static void counts() {
        says(35, "0 THE MONTH, 1 bytes of THE TEXT, 2 MEASURES, 3 ASKED, 4 of these TOLD, 5 TICKS of all DRIVES. OUTSIDE.");
        CleanStand x = loads(written(fresh(), " ".repeat(160)), 5, 1, 0, 9);
        for (int i = 0; i < 20; i++) {
            x.measure(5, 0, 0);
            x.ask(0, 0, 0);
            x.tell(i);
        }
        for (int time = 0; time < 3; time++) {
            x.months(60);
        }
        x.months(20);
        int[] full = {200, 160, 20, 20, 20, 1};
        for (int what = 0; what <= 5; what++) {
            is("full, what " + what, x.count(what), full[what]);
        }
        is("too small", x.count(-1), OUTSIDE);
        is("too large", x.count(6), OUTSIDE);
    }
}
