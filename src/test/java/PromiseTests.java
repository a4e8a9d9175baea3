/** For each promise of the document: ordinary inputs, the edges it names, and wrong inputs. */
public final class PromiseTests extends Checks {
    public static void main(String[] args) {
        newObject();
        drive();
        tick();
        dose();
        set();
        reading();
        write();
        erase();
        faultOfPrograms();
        faultOfLaws();
        program();
        law();
        run();
        all();
        parts();
        bound();
        fewest();
        spy();
        measure();
        lets();
        parting();
        breaks();
        cold();
        lasts();
        saves();
        cars();
        fix();
        owed();
        cost();
        looks();
        months();
        ask();
        tell();
        known();
        comes();
        count();
        end("PromiseTests");
    }

    private static void newObject() {
        CleanStand x = new CleanStand();
        for (int what = 0; what <= 5; what++) {
            due("1 count(" + what + ")", x.count(what), 0);
        }
        for (int map = 0; map < 4; map++) {
            for (int klass = 0; klass < 4; klass++) {
                due("1 dose", x.dose(map, klass, 1), 0);
            }
        }
        for (int version = 0; version < 4; version++) {
            due("1 cars", x.cars(version, 0, 0), 0);
            due("1 fee", x.cars(version, 1, 0), 0);
            due("1 breaks", x.breaks(version, 0), 0);
            due("1 breaks", x.breaks(version, 1), 0);
            due("1 known", x.known(0, version, 200), 0);
        }
        due("1 tank", x.set(0, 1), 1000);
        due("1 trap", x.set(1, 20), 100);
        due("1 price", x.set(2, 1), 1000);
        due("1 wind", x.set(3, 1), 0);
        for (int drive = 0; drive < 6; drive++) {
            due("1 cost", x.cost(drive, 1), 1);
            due("1 all", x.all(0, drive, 4), 0);
        }
        due("1 erase", x.erase(), 0);
        x.tick(5, 0, 0, 0, 0, 7);
        due("1 a drive is a stand at first", x.bound(8), 8);
        due("1 no program: no line", x.run(0, 5, 0, 1), NONE);
        due("1 no program: map 0", x.run(0, 5, 0, 0), 0);
        CleanStand y = new CleanStand();
        due("1 objects are apart", y.count(5), 0);
    }

    private static void drive() {
        CleanStand x = new CleanStand();
        x.tick(5, 1, 1, 1, 1, 1);
        due("2 drive", x.drive(5, 1, 3), 1);
        due("2 without ticks", x.count(5), 0);
        due("2 a tick again", x.tick(5, 0, 40, 2, 0, 0), 1);
        due("2 turned begins anew", x.reading(5, 0, 2), 2);
        due("2 soot begins anew", x.reading(5, 0, 7), 0);
        x.cars(0, 0, 1);
        due("2 its street", x.comes(3), 40);
        due("2 unknown", x.drive(6, 0, 0), UNKNOWN);
        due("2 unknown", x.drive(-1, 0, 0), UNKNOWN);
        due("2 unknown street", x.drive(0, 0, 4), UNKNOWN);
        due("2 unknown street", x.drive(5, 0, -1), UNKNOWN);
        due("2 unknown ahead of outside", x.drive(5, 9, MOST), UNKNOWN);
        due("2 unknown ahead of outside", x.drive(LEAST, 9, 0), UNKNOWN);
        due("2 outside", x.drive(5, 2, 0), OUTSIDE);
        due("2 outside", x.drive(5, -1, 0), OUTSIDE);
        due("2 refused changes nothing", x.count(5), 1);
        due("2 back to a stand", x.drive(5, 0, 3), 1);
        x.tick(5, 0, 40, 0, 0, 0);
        due("2 nothing comes of a stand", x.comes(3), 0);
        x.cost(5, 7);
        x.drive(5, 1, 0);
        due("2 the look costs the same", x.cost(5, 7), 7);
    }

    private static void tick() {
        CleanStand x = new CleanStand();
        due("3 most", x.tick(0, 159, 99, 9, 30, 60), 1);
        due("3 least", x.tick(0, 0, 0, -9, 0, 0), 2);
        due("3 unknown", x.tick(6, 0, 0, 0, 0, 0), UNKNOWN);
        due("3 unknown", x.tick(-1, 160, 0, 0, 0, 0), UNKNOWN);
        int[][] wrong = {{160, 0, 0, 0, 0}, {-1, 0, 0, 0, 0}, {0, 100, 0, 0, 0}, {0, -1, 0, 0, 0}, {0, 0, 10, 0, 0},
            {0, 0, -10, 0, 0}, {0, 0, LEAST, 0, 0}, {0, 0, 0, 31, 0}, {0, 0, 0, -1, 0}, {0, 0, 0, 0, 61}, {0, 0, 0, 0, -1}};
        for (int[] w : wrong) {
            due("3 outside", x.tick(0, w[0], w[1], w[2], w[3], w[4]), OUTSIDE);
        }
        for (int i = 3; i <= 40; i++) {
            due("3 tick", x.tick(0, 0, 99, 1, 0, 0), i);
        }
        due("3 full", x.tick(0, 0, 0, 0, 0, 0), FULL);
        due("3 outside ahead of full", x.tick(0, 160, 0, 0, 0, 0), OUTSIDE);
        due("3 unknown ahead of full", x.tick(6, 160, 0, 0, 0, 0), UNKNOWN);
        due("3 another drive is not full", x.tick(1, 0, 0, 0, 0, 0), 1);
        due("3 ticks", x.count(5), 41);
        due("3 the last tick", x.reading(0, 39, 0), 39);
        due("3 turned at the last tick", x.reading(0, 39, 2), 56);
    }

    private static void dose() {
        CleanStand x = new CleanStand();
        due("4 dose", x.dose(3, 3, 60), 0);
        due("4 that which it was", x.dose(3, 3, 0), 60);
        due("4 its own place", x.dose(3, 2, 1), 0);
        due("4 unknown", x.dose(4, 0, 0), UNKNOWN);
        due("4 unknown", x.dose(-1, 9, 99), UNKNOWN);
        due("4 class", x.dose(0, 4, 0), OUTSIDE);
        due("4 class", x.dose(0, -1, 0), OUTSIDE);
        due("4 dose", x.dose(0, 0, 61), OUTSIDE);
        due("4 dose", x.dose(0, 0, -1), OUTSIDE);
        due("4 refused changes nothing", x.dose(0, 0, 0), 0);
        for (int klass = 0; klass < 4; klass++) {
            x.dose(0, klass, klass + 1);
        }
        int[] speeds = {0, 39, 40, 79, 80, 119, 120, 159};
        for (int i = 0; i < speeds.length; i++) {
            x.tick(0, speeds[i], 50, 0, 0, 0);
            due("4 class of speed " + speeds[i], x.run(0, 0, i, 2), i / 2 + 1);
        }
    }

    private static void set() {
        CleanStand x = new CleanStand();
        int[] least = {0, 20, 0, 0};
        int[] most = {9999, 999, 99999, 100};
        int[] first = {1000, 100, 1000, 0};
        for (int what = 0; what < 4; what++) {
            due("5 below " + what, x.set(what, least[what] - 1), OUTSIDE);
            due("5 above " + what, x.set(what, most[what] + 1), OUTSIDE);
            due("5 far " + what, x.set(what, LEAST), OUTSIDE);
            due("5 far " + what, x.set(what, MOST), OUTSIDE);
            due("5 set " + what, x.set(what, least[what]), first[what]);
            due("5 set " + what, x.set(what, most[what]), least[what]);
            due("5 set " + what, x.set(what, first[what]), most[what]);
        }
        due("5 outside", x.set(4, 50), OUTSIDE);
        due("5 outside", x.set(-1, 50), OUTSIDE);
        due("5 outside", x.set(MOST, 50), OUTSIDE);
        loads(x, 0, 0, 0, 80, 80, 80, 80);
        due("5 soot by the trap", x.reading(0, 3, 7), 30);
        x.set(1, 20);
        due("5 a trap set later counts", x.reading(0, 3, 7), 0);
        x.set(1, 30);
        due("5 a trap set later counts", x.reading(0, 3, 7), 30);
    }

    private static void reading() {
        CleanStand x = new CleanStand();
        x.set(1, 20);
        x.tick(2, 50, 20, -3, 5, 10);
        x.tick(2, 60, 99, 4, 6, 11);
        x.tick(2, 70, 64, 0, 7, 12);
        x.tick(2, 80, 7, -9, 8, 13);
        x.tick(2, 90, 8, 1, 9, 14);
        x.tick(2, 100, 0, 1, 9, 14);
        int[][] rows = {{0, 3, 3, 5, 10, 50, 20, 0}, {1, 4, 7, 6, 11, 60, 99, 2}, {2, 0, 7, 7, 12, 70, 64, 14},
            {3, 9, 16, 8, 13, 80, 7, 0}, {4, 1, 17, 9, 14, 90, 8, 0}, {5, 1, 18, 9, 14, 100, 0, 1}};
        for (int tick = 0; tick < 6; tick++) {
            for (int reading = 0; reading < 8; reading++) {
                due("6 reading(2, " + tick + ", " + reading + ")", x.reading(2, tick, reading), rows[tick][reading]);
            }
        }
        due("6 no such tick", x.reading(2, 6, 0), UNKNOWN);
        due("6 no such tick", x.reading(2, -1, 0), UNKNOWN);
        due("6 no such tick", x.reading(0, 0, 8), UNKNOWN);
        due("6 no such drive", x.reading(6, 0, 8), UNKNOWN);
        due("6 no such drive", x.reading(LEAST, 0, 0), UNKNOWN);
        due("6 outside", x.reading(2, 0, 8), OUTSIDE);
        due("6 outside", x.reading(2, 0, -1), OUTSIDE);
    }

    private static void write() {
        CleanStand x = new CleanStand();
        due("7 n 0", x.write(0, 0), OUTSIDE);
        due("7 n 9", x.write(0, 9), OUTSIDE);
        due("7 n", x.write(0, LEAST), OUTSIDE);
        // "map 3" from its low byte on; what is above n bytes does not count.
        due("7 five", x.write(0x41_41_41_33_20_70_61_6dL, 5), 5);
        due("7 it reads map 3", x.fault(0), NONE);
        due("7 eight", x.write(0x20_20_20_20_20_20_20_20L, 8), 13);
        due("7 still", x.fault(0), NONE);
        due("7 the last of eight", x.write(0xff_20_20_20_20_20_20_20L, 8), 21);
        due("7 a byte of 255", x.fault(0), 20);
        x.erase();
        for (int i = 1; i <= 19; i++) {
            due("7 write", x.write(-1, 8), 8 * i);
        }
        due("7 one", x.write(0, 1), 153);
        due("7 beyond 160", x.write(0, 8), FULL);
        due("7 refused changes nothing", x.count(1), 153);
        due("7 up to 160", x.write(0, 7), 160);
        due("7 full", x.write(0, 1), FULL);
        due("7 outside ahead of full", x.write(0, 9), OUTSIDE);
        due("7 a byte of 255 at once", x.fault(0), 0);
    }

    private static void erase() {
        CleanStand x = written(new CleanStand(), "map 0");
        due("8 had", x.erase(), 5);
        due("8 is empty", x.count(1), 0);
        due("8 is empty", x.erase(), 0);
        due("8 as empty", x.fault(0), 0);
        programmed(x, 0, "map 2");
        x.tick(0, 0, 0, 0, 0, 0);
        x.erase();
        due("8 programs stay", x.run(0, 0, 0, 0), 2);
    }

    private static void fault(int what, String text, int place) {
        due("9 fault(" + what + ") of '" + text + "'", written(new CleanStand(), text).fault(what), place);
    }

    private static void faultOfPrograms() {
        fault(0, "", 0);
        fault(0, "   ", 3);
        fault(0, "map 0", NONE);
        fault(0, "  map  003  ", NONE);
        fault(0, "map 0;map 1 ; map 2 ;map 3;map 0;map 0", NONE);
        fault(0, "map 0;map 0;map 0;map 0;map 0;map 0;", 35);
        fault(0, "map 0;", 6);
        fault(0, "map 0; ", 7);
        fault(0, ";map 0", 0);
        fault(0, "map 0;;map 1", 6);
        fault(0, "map", 3);
        fault(0, "map ", 4);
        fault(0, "map 4", 4);
        fault(0, "map 0000", 4);
        fault(0, "map 0 1", 6);
        fault(0, "mapp 0", 0);
        fault(0, "ma", 0);
        fault(0, "mapz 0", 0);
        fault(0, "mapa 0", 0);
        fault(0, "map 0 when time above 990", NONE);
        fault(0, "map 0 when time above 199", NONE);
        fault(0, "Map 0", 0);
        fault(0, "maP 0", 0);
        fault(0, "map x", 4);
        fault(0, "map -1", 4);
        fault(0, "map 1 and", 6);
        fault(0, "map 1 when", 10);
        fault(0, "map 1 when map", 11);
        fault(0, "map 1 when heats below 3", 11);
        fault(0, "map 1 when heat", 15);
        fault(0, "map 1 when heat beside 3", 16);
        fault(0, "map 1 when heat below", 21);
        fault(0, "map 1 when heat below x", 22);
        fault(0, "map 1 when heat below 999", NONE);
        fault(0, "map 1 when heat below 1000", 22);
        fault(0, "map 1 when heat below 0999", 22);
        fault(0, "map 1 when heat below 3 and", 27);
        fault(0, "map 1 when heat below 3 when load above 4", 24);
        fault(0, "map 1 when heat below 3, load above 4", 23);
        fault(0, "map 1 when heat below 3; when load above 4", 25);
        fault(0, "map 1\twhen heat below 3", 5);
        fault(0, "map 1 when heat below 3\n", 23);
        fault(0, "map 1 when heat below 3" + (char) 233, 23);
        fault(0, "map 1 when heat below 3" + (char) 0, 23);
        fault(0, "map 1 when heat below 3/", 23);
        fault(0, "map 1 when heat below 3:", 23);
        fault(0, "map{1", 3);
        fault(0, "map`1", 3);
        fault(0, "map 1 when time above 0 and wheel above 0 and turned above 0 and height above 0", NONE);
        fault(0, "map 1 when heat above 0 and speed above 0 and load above 0 and soot above 0", NONE);
        fault(0, "map 1 when heat above 0 and load above 0 and load above 0 and load above 0 and load above 0", 75);
        fault(0, "map 1 when heat above 0 and load above 0 and load above 0 and load above 0;map 1", NONE);
        // TOKENS are rows of letters and rows of digits, so they end without a blank also.
        fault(0, "map1when heat below3and load above4;map2", NONE);
        fault(0, "gram 5", 0);
        due("9 what", new CleanStand().fault(2), OUTSIDE);
        due("9 what", new CleanStand().fault(-1), OUTSIDE);
        CleanStand x = written(new CleanStand(), "map 0");
        x.fault(0);
        due("9 the text stays", x.count(1), 5);
    }

    private static void faultOfLaws() {
        fault(1, "", 0);
        fault(1, " ", 1);
        fault(1, "gram 0;gram 999;road 0;road 999;ban time;ban wheel;ask turned;ask height", NONE);
        fault(1, "ban heat; ban speed; ask load; ask soot", NONE);
        fault(1, "gram 0;gram 0;gram 0;gram 0;gram 0;gram 0;gram 0;gram 0;gram 0", 55);
        fault(1, "gram 0;gram 0;gram 0;gram 0;gram 0;gram 0;gram 0;gram 0;", 55);
        fault(1, "gram", 4);
        fault(1, "gram 1000", 5);
        fault(1, "gram heat", 5);
        fault(1, "road 1000", 5);
        fault(1, "road heat", 5);
        fault(1, "ban", 3);
        fault(1, "ban 5", 4);
        fault(1, "ask 5", 4);
        fault(1, "ask map", 4);
        fault(1, "grams 5", 0);
        fault(1, "gram 5;", 7);
        fault(1, "gram 5 and road 3", 7);
        fault(1, "gram 5;road 3 when heat below 3", 14);
        fault(1, "map 0", 0);
        // A program's fault does not hang on a law that was looked at in between.
        CleanStand x = written(new CleanStand(), "gram 5");
        due("9 as a program", x.fault(0), 0);
        due("9 as a law", x.fault(1), NONE);
        due("9 as a program", x.fault(0), 0);
    }

    private static void program() {
        CleanStand x = new CleanStand();
        due("10 empty", x.program(0), NOT);
        written(x, "map 1 when heat above 5;map 2");
        due("10 unknown", x.program(4), UNKNOWN);
        due("10 unknown", x.program(-1), UNKNOWN);
        due("10 the text stays", x.count(1), 29);
        due("10 lines", x.program(3), 2);
        due("10 the text is empty", x.count(1), 0);
        x.tick(0, 0, 0, 0, 0, 6);
        x.tick(0, 0, 0, 0, 0, 5);
        due("10 it runs", x.run(3, 0, 0, 0), 1);
        due("10 it runs", x.run(3, 0, 1, 0), 2);
        due("10 another has none", x.run(2, 0, 0, 1), NONE);
        written(x, "map 3; map 4");
        due("10 a fault", x.program(3), NOT);
        due("10 unknown ahead of a fault", x.program(4), UNKNOWN);
        due("10 the text stays", x.count(1), 12);
        due("10 the program stays", x.run(3, 0, 0, 0), 1);
        x.fault(0);
        due("10 looking for a fault changes no program", x.run(3, 0, 1, 0), 2);
        x.erase();
        due("10 a new one", written(x, "map 3").program(3), 1);
        due("10 a new one", x.run(3, 0, 0, 0), 3);
        due("10 the same for another", written(x, "map 1;map 1;map 1;map 1;map 1;map 1").program(0), 6);
        due("10 the first stays", x.run(3, 0, 0, 0), 3);
        due("10 the other", x.run(0, 0, 0, 0), 1);
    }

    private static void law() {
        CleanStand x = new CleanStand();
        due("11 empty", x.law(0), NOT);
        due("11 unknown", x.law(2), UNKNOWN);
        due("11 unknown", x.law(-1), UNKNOWN);
        loads(x, 0, 0, 0, 50);
        due("11 lines", written(x, "gram 1;gram 2").law(1), 2);
        due("11 the text is empty", x.count(1), 0);
        due("11 it holds", x.breaks(0, 1), 3);
        due("11 not in the other land", x.breaks(0, 0), 0);
        written(x, "gram 0;gram");
        due("11 a fault", x.law(1), NOT);
        x.fault(1);
        due("11 the law stays", x.breaks(0, 1), 3);
        due("11 the text stays", x.erase(), 11);
        due("11 a new one", written(x, "gram 0").law(1), 1);
        due("11 a new one", x.breaks(0, 1), 1);
        due("11 the other land", written(x, "ban heat;gram 3;road 4;ask soot;gram 5;gram 6;gram 7;gram 8").law(0), 8);
        due("11 the other land", x.breaks(0, 0), 2 + 16 + 32 + 64 + 128);
    }

    private static void run() {
        CleanStand x = new CleanStand();
        x.set(0, 25);
        x.set(1, 20);
        x.dose(0, 0, 3);
        x.dose(1, 1, 10);
        x.dose(2, 3, 60);
        programmed(x, 1, "map 1 when speed above 39 and speed below 80;map 2 when heat above 20");
        x.tick(4, 39, 80, 0, 0, 20);
        x.tick(4, 41, 79, 0, 0, 21);
        x.tick(4, 159, 40, 0, 0, 21);
        x.tick(4, 60, 9, 0, 0, 0);
        // map, line, used, turned off, air
        int[][] rows = {{0, NONE, 3, 12, 87}, {1, 0, 10, 40, 59}, {2, 1, 12, 48, 91}, {1, 0, 0, 0, 39}};
        for (int tick = 0; tick < 4; tick++) {
            for (int what = 0; what < 5; what++) {
                due("12 run(1, 4, " + tick + ", " + what + ")", x.run(1, 4, tick, what), rows[tick][what]);
            }
        }
        x.set(0, 1000);
        due("12 turned off is raw at most", x.run(1, 4, 2, 3), 119);
        due("12 and 20 more by the trap", x.run(1, 4, 2, 4), 20);
        due("12 a trap just full stays", x.set(1, 24), 20);
        due("12 a trap just full stays", x.run(1, 4, 2, 4), 0);
        due("12 used is the whole dose", x.run(1, 4, 2, 2), 60);
        due("12 no such tick", x.run(1, 4, 4, 0), UNKNOWN);
        due("12 no such tick", x.run(1, 4, -1, 9), UNKNOWN);
        due("12 no such drive", x.run(1, 6, 0, 0), UNKNOWN);
        due("12 no such version", x.run(4, 4, 0, 0), UNKNOWN);
        due("12 no such version", x.run(-1, 4, 0, 9), UNKNOWN);
        due("12 outside", x.run(1, 4, 0, 5), OUTSIDE);
        due("12 outside", x.run(1, 4, 0, -1), OUTSIDE);
        runByEachReading();
    }

    private static void runByEachReading() {
        String[] words = {"time", "wheel", "turned", "height", "heat", "speed", "load", "soot"};
        for (int reading = 0; reading < 8; reading++) {
            CleanStand x = new CleanStand();
            x.tick(0, 20, 31, -4, 15, 25);
            x.tick(0, 60, 50, 5, 16, 26);
            int value = x.reading(0, 1, reading);
            programmed(x, 0, "map 1 when " + words[reading] + " below " + value);
            programmed(x, 1, "map 1 when " + words[reading] + " below " + (value + 1));
            programmed(x, 2, "map 1 when " + words[reading] + " above " + value);
            programmed(x, 3, "map 1 when " + words[reading] + " above " + (value - 1));
            due("12 " + words[reading] + " is not below itself", x.run(0, 0, 1, 0), 0);
            due("12 " + words[reading] + " is below one more", x.run(1, 0, 1, 0), 1);
            due("12 " + words[reading] + " is not above itself", x.run(2, 0, 1, 0), 0);
            due("12 " + words[reading] + " is above one less", x.run(3, 0, 1, 0), 1);
        }
    }

    private static void all() {
        CleanStand x = new CleanStand();
        x.set(0, 25);
        x.set(1, 20);
        x.dose(0, 0, 10);
        loads(x, 0, 1, 0, 99, 99, 99, 30);
        due("13 used", x.all(0, 0, 2), 25);
        due("13 turned off", x.all(0, 0, 3), 100);
        due("13 air", x.all(0, 0, 4), 327 - 100 + 20);
        due("13 emptied", x.all(0, 0, 5), 1);
        due("13 no ticks", x.all(0, 1, 5), 0);
        due("13 no ticks", x.all(3, 5, 2), 0);
        due("13 unknown", x.all(4, 0, 2), UNKNOWN);
        due("13 unknown", x.all(-1, 0, 9), UNKNOWN);
        due("13 unknown", x.all(0, 6, 2), UNKNOWN);
        due("13 unknown", x.all(0, -1, 2), UNKNOWN);
        due("13 outside", x.all(0, 0, 1), OUTSIDE);
        due("13 outside", x.all(0, 0, 6), OUTSIDE);
        due("13 outside", x.all(0, 0, 0), OUTSIDE);
        for (int i = 0; i < 36; i++) {
            x.tick(0, 159, 99, 0, 0, 0);
        }
        due("13 emptied each second time", x.all(0, 0, 5), 19);
    }

    private static CleanStand standAndRoads() {
        CleanStand x = new CleanStand();
        x.tick(0, 50, 20, 0, 3, 20);
        x.tick(3, 60, 30, 1, 4, 25);
        x.drive(1, 1, 0);
        x.tick(1, 55, 25, 0, 3, 19);
        x.drive(2, 1, 0);
        x.tick(2, 55, 25, 1, 4, 25);
        x.tick(2, 61, 25, -1, 2, 26);
        x.drive(4, 1, 0);
        return x;
    }

    private static void parts() {
        CleanStand x = standAndRoads();
        int[] want = {4, 0, 0, 0, 4, 0, 0, 4, 4, 2, 4, 0, 0, 0, 4, 0};
        for (int test = 0; test < 16; test++) {
            due("14 parts(" + test + ")", x.parts(test), want[test]);
        }
        due("14 outside", x.parts(16), OUTSIDE);
        due("14 outside", x.parts(-1), OUTSIDE);
        x.drive(0, 0, 0);
        x.drive(3, 1, 0);
        for (int test = 0; test < 16; test++) {
            due("14 no stand", x.parts(test), 0);
        }
        due("14 a test that holds nowhere on roads", roadFarFromStand().parts(10), 32);
        CleanStand y = new CleanStand();
        y.tick(5, 10, 0, 0, 0, 0);
        y.drive(0, 1, 0);
        y.tick(0, 9, 0, 0, 0, 0);
        due("14 the first drive, above", y.parts(11), 1);
    }

    private static CleanStand roadFarFromStand() {
        CleanStand x = new CleanStand();
        x.tick(0, 10, 0, 0, 0, 0);
        x.drive(5, 1, 0);
        x.tick(5, 100, 0, 0, 0, 0);
        return x;
    }

    private static void bound() {
        CleanStand x = standAndRoads();
        int[] want = {1, NONE, 2, NONE, 2, NONE, 5, 2, 26, 19, 61, 49, 31, 19, 1, NONE};
        for (int test = 0; test < 16; test++) {
            due("15 bound(" + test + ")", x.bound(test), want[test]);
        }
        due("15 outside", x.bound(16), OUTSIDE);
        due("15 outside", x.bound(-1), OUTSIDE);
        x.drive(0, 0, 0);
        x.drive(3, 0, 0);
        for (int test = 0; test < 16; test++) {
            due("15 no ticks on stands", x.bound(test), NONE);
        }
        x.tick(0, 1, 0, 0, 0, 0);
        due("15 above 0, if the least is 1", x.bound(11), 0);
        due("15 none above, if the least is 0", x.bound(13), NONE);
        due("15 below 1, if the greatest is 0", x.bound(12), 1);
    }

    private static void fewest() {
        due("16 no stand", new CleanStand().fewest(), 0);
        CleanStand x = standAndRoads();
        due("16 two, the least by bits", x.fewest(), 1 + 512);
        x.drive(1, 1, 0);
        due("16 one for one road", x.fewest(), 1);
        // Three roads in pairs by height, heat and speed: two tests do, the least by bits of three such sets.
        CleanStand y = new CleanStand();
        y.tick(0, 10, 0, 0, 10, 10);
        for (int road = 1; road <= 3; road++) {
            y.drive(road, 1, 0);
            y.tick(road, road == 3 ? 10 : 20, 0, 0, road == 1 ? 10 : 20, road == 2 ? 10 : 20);
        }
        due("16 parts", y.parts(6), 12);
        due("16 parts", y.parts(8), 10);
        due("16 parts", y.parts(10), 6);
        due("16 the least by bits of several", y.fewest(), 64 + 256);
        // One with a greater number is ahead of two with lesser ones.
        CleanStand z = new CleanStand();
        z.tick(0, 10, 0, 0, 10, 10);
        z.drive(1, 1, 0);
        z.tick(1, 20, 0, 0, 20, 10);
        z.drive(2, 1, 0);
        z.tick(2, 20, 0, 0, 10, 20);
        due("16 the least in number first", z.fewest(), 1024);
    }

    private static void spy() {
        CleanStand x = new CleanStand();
        due("17 no ticks", x.spy(0, 0, 0), NONE);
        programmed(x, 0, "map 1 when wheel below 3");
        programmed(x, 1, "map 1 when turned below 5");
        programmed(x, 2, "map 1 when wheel above 0 and turned below 9;map 2");
        x.tick(0, 0, 0, 0, 0, 0);
        x.tick(0, 0, 0, 1, 0, 0);
        x.tick(0, 0, 0, -1, 0, 0);
        due("17 at the last tick alone", x.spy(0, 0, 1), 64 * 3 + 2);
        due("17 turned together: the least turn, then the least tick", x.spy(1, 0, 1), 64 * 4 + 2);
        due("17 a turn of 0", x.spy(2, 0, 1), 2);
        due("17 a turn of 1 at the first tick", x.spy(2, 0, 2), 64);
        due("17 a map not taken: 0 first, where the turn is another", x.spy(0, 0, 3), 1);
        due("17 none", x.spy(3, 0, 0), NONE);
        x.drive(1, 0, 0);
        x.tick(1, 0, 0, 0, 0, 0);
        due("17 0 is no other turn than 0", x.spy(0, 1, 3), 64);
        x.drive(2, 0, 0);
        x.tick(2, 0, 0, -3, 0, 0);
        due("17 3 is another turn than -3", x.spy(0, 2, 1), 64 * 3);
        x.drive(3, 0, 0);
        x.tick(3, 0, 0, 3, 0, 0);
        due("17 3 is not another turn than 3", x.spy(0, 3, 1), 64 * 4);
        due("17 what was is as it was", x.reading(0, 2, 2), 2);
        due("17 unknown", x.spy(4, 0, 0), UNKNOWN);
        due("17 unknown", x.spy(0, 6, 0), UNKNOWN);
        due("17 unknown", x.spy(0, 0, 4), UNKNOWN);
        due("17 unknown", x.spy(0, 0, -1), UNKNOWN);
        // Ahead of the tick a map may be taken.
        CleanStand y = programmed(new CleanStand(), 0, "map 1 when turned below 1");
        y.tick(0, 0, 0, 0, 0, 0);
        y.tick(0, 0, 0, 0, 0, 0);
        due("17 from the first tick on", y.spy(0, 0, 1), 64);
        programmed(y, 0, "map 1 when turned below 9 and time above 0");
        due("17 a great turn", y.spy(0, 0, 1), 64 * 9);
        programmed(y, 0, "map 1 when turned below 10");
        due("17 no turn is great enough", y.spy(0, 0, 1), NONE);
    }

    private static void measure() {
        CleanStand x = loads(new CleanStand(), 0, 1, 0, 30, 40);
        due("18 measure", x.measure(0, 1, 70), 1);
        due("18 unknown", x.measure(6, 0, 0), UNKNOWN);
        due("18 unknown", x.measure(-1, 0, 0), UNKNOWN);
        due("18 no such tick", x.measure(0, 2, 0), UNKNOWN);
        due("18 no such tick", x.measure(0, -1, 10000), UNKNOWN);
        due("18 outside", x.measure(0, 0, 10000), OUTSIDE);
        due("18 outside", x.measure(0, 0, -1), OUTSIDE);
        due("18 refused changes nothing", x.count(2), 1);
        due("18 least", x.measure(0, 0, 0), 2);
        due("18 most", x.measure(0, 0, 9999), 3);
        for (int i = 4; i <= 20; i++) {
            due("18 measure", x.measure(0, 0, 30), i);
        }
        due("18 full", x.measure(0, 0, 30), FULL);
        due("18 outside ahead of full", x.measure(0, 0, -1), OUTSIDE);
        due("18 unknown ahead of full", x.measure(0, 2, -1), UNKNOWN);
        due("18 twenty", x.count(2), 20);
    }

    private static void lets() {
        CleanStand x = loads(new CleanStand(), 0, 1, 0, 30, 40);
        due("19 all at first", x.lets(), 15);
        x.dose(1, 0, 5);
        programmed(x, 1, "map 1");
        programmed(x, 2, "map 1 when time above 0");
        x.measure(0, 0, 30);
        due("19 by the first tick", x.lets(), 1 + 4 + 8);
        x.measure(0, 1, 70);
        due("19 up to a tick, all together", x.lets(), 1 + 8);
        x.dose(1, 0, 0);
        due("19 by the doses now", x.lets(), 15);
        x.tick(0, 0, 99, 0, 0, 0);
        due("19 later ticks do not count", x.lets(), 15);
        x.drive(0, 1, 0);
        due("19 a tick that is no more", x.lets(), 0);
        x.tick(0, 0, 30, 0, 0, 0);
        due("19 one of them is there", x.lets(), 0);
        x.tick(0, 0, 40, 0, 0, 0);
        due("19 both are there again", x.lets(), 15);
    }

    private static void parting() {
        CleanStand x = new CleanStand();
        due("20 no ticks", x.parting(0), 0);
        due("20 no ticks", x.parting(1), 1);
        x.dose(1, 0, 5);
        x.dose(2, 0, 10);
        programmed(x, 1, "map 1 when heat above 5");
        programmed(x, 2, "map 2 when heat above 9");
        programmed(x, 3, "map 3 when heat above 9");
        loads(x, 1, 0, 0, 90);
        x.drive(2, 1, 0);
        x.tick(2, 0, 90, 0, 0, 8);
        x.drive(4, 0, 0);
        x.tick(4, 0, 90, 0, 0, 10);
        x.drive(5, 1, 0);
        x.tick(5, 0, 90, 0, 0, 10);
        due("20 the drive", x.parting(0), 4);
        due("20 how many", x.parting(1), 3);
        x.measure(4, 0, 50);
        due("20 one is let", x.parting(0), 0);
        due("20 one is let", x.parting(1), 1);
        x.measure(4, 0, 51);
        due("20 none is let", x.parting(0), NONE);
        due("20 none is let", x.parting(1), 0);
        due("20 outside", x.parting(2), OUTSIDE);
        due("20 outside", x.parting(-1), OUTSIDE);
        CleanStand y = loads(new CleanStand(), 3, 1, 0, 90);
        y.dose(1, 0, 5);
        programmed(y, 3, "map 1");
        due("20 the least of several", y.parting(0), 3);
        due("20 two", y.parting(1), 2);
        y.measure(3, 0, 90);
        due("20 those that are let alone", y.parting(1), 1);
    }

    private static void breaks() {
        // AIR of 3 in 2 ticks on a stand: 150 hundredths a tick.
        CleanStand x = loads(new CleanStand(), 0, 0, 0, 1, 2);
        lawed(x, 0, "gram 149;gram 150;road 0;ban heat;ask heat");
        due("21 gram", x.breaks(0, 0), 1);
        loads(x, 1, 1, 0, 2, 2, 1);
        due("21 a road above nothing", x.breaks(0, 0), 1 + 4);
        // 5 in 3 ticks on the road: 50000 above 149 times P times 3 up to P 111.
        lawed(x, 1, "road 111;road 112;gram 400;gram 149");
        due("21 road by the least gram", x.breaks(0, 1), 1 + 8);
        lawed(x, 1, "road 0");
        due("21 no gram: no road", x.breaks(0, 1), 0);
        lawed(x, 1, "gram 0; road 999");
        due("21 a gram of 0", x.breaks(0, 1), 3);
        lawed(x, 1, "gram 100; road 167; road 166");
        due("21 just as much is no more", x.breaks(0, 1), 1 + 4);
        programmed(x, 2, "map 1;map 0 when load below 1 and heat below 2");
        due("21 ban, ask by a test in any line", x.breaks(2, 0), 1 + 4 + 8 + 16);
        due("21 ask", x.ask(0, 2, 4), 0);
        due("21 asked is not told", x.breaks(2, 0), 1 + 4 + 8 + 16);
        x.ask(1, 2, 4);
        x.ask(0, 1, 4);
        x.ask(0, 2, 3);
        x.tell(1);
        x.tell(2);
        x.tell(3);
        due("21 told to another land, of another version or reading", x.breaks(2, 0), 1 + 4 + 8 + 16);
        x.tell(0);
        due("21 told", x.breaks(2, 0), 1 + 4 + 8);
        x.drive(0, 0, 0);
        x.drive(1, 1, 0);
        due("21 no ticks", x.breaks(2, 0), 8);
        due("21 unknown", x.breaks(4, 0), UNKNOWN);
        due("21 unknown", x.breaks(-1, 0), UNKNOWN);
        due("21 unknown", x.breaks(0, 2), UNKNOWN);
        due("21 unknown", x.breaks(0, -1), UNKNOWN);
        CleanStand y = loads(new CleanStand(), 0, 0, 0, 0, 0);
        loads(y, 5, 0, 0, 9);
        lawed(y, 0, "gram 899;gram 900;gram 300");
        due("21 some stand, not all together", y.breaks(0, 0), 1 + 4);
        loads(y, 1, 1, 0, 1);
        lawed(y, 0, "road 100;road 99;gram 100");
        due("21 100 hundredths of 100 hundredths are not more than 1", y.breaks(0, 0), 2 + 4);
        breaksByTests();
    }

    private static void breaksByTests() {
        CleanStand x = lawed(new CleanStand(), 1, "ban time;ban wheel;ban turned;ban height;ban heat;ban speed;ban load;ban soot");
        String[] words = {"time", "wheel", "turned", "height", "heat", "speed", "load", "soot"};
        for (int reading = 0; reading < 8; reading++) {
            programmed(x, 0, "map 0 when " + words[reading] + " below 5");
            due("21 ban " + words[reading], x.breaks(0, 1), 1 << reading);
            programmed(x, 0, "map 0;map 1 when time above 1 and " + words[reading] + " below 5");
            due("21 ban time, " + words[reading], x.breaks(0, 1), 1 | 1 << reading);
        }
        programmed(x, 0, "map 0 when soot above 1 and load above 1 and heat above 1 and speed above 1;map 1");
        due("21 ban four", x.breaks(0, 1), 16 + 32 + 64 + 128);
        programmed(x, 0, "map 0");
        due("21 no tests", x.breaks(0, 1), 0);
        due("21 no program", x.breaks(1, 1), 0);
    }

    private static void cold() {
        CleanStand x = new CleanStand();
        programmed(x, 1, "map 1 when heat below 10;map 2 when heat above 50");
        x.drive(0, 1, 0);
        x.drive(5, 1, 0);
        int[] heats = {0, 9, 10, 50, 51, 60};
        for (int heat : heats) {
            x.tick(0, 0, 0, 0, 0, heat);
            x.tick(5, 0, 0, 0, 0, heat);
            x.tick(3, 0, 0, 0, 0, heat);
        }
        due("22 all roads, no stand", x.cold(1, 3, 61, 1), 12);
        due("22 below 61", x.cold(1, 3, 61, 0), 12);
        due("22 below 60", x.cold(1, 3, 60, 0), 10);
        due("22 below 0", x.cold(1, 3, 0, 0), 0);
        due("22 not map 0", x.cold(1, 0, 10, 1), 8);
        due("22 not map 0, cold", x.cold(1, 0, 10, 0), 4);
        due("22 not map 1", x.cold(1, 1, 51, 0), 4);
        due("22 not map 1", x.cold(1, 1, 51, 1), 8);
        due("22 no program takes map 0", x.cold(0, 0, 61, 1), 0);
        due("22 unknown", x.cold(4, 0, 0, 0), UNKNOWN);
        due("22 unknown", x.cold(0, 4, 62, 0), UNKNOWN);
        due("22 unknown", x.cold(0, -1, 0, 2), UNKNOWN);
        due("22 outside", x.cold(0, 0, 62, 0), OUTSIDE);
        due("22 outside", x.cold(0, 0, -1, 0), OUTSIDE);
        due("22 outside", x.cold(0, 0, 0, 2), OUTSIDE);
        due("22 outside", x.cold(0, 0, 0, -1), OUTSIDE);
    }

    private static void lasts() {
        CleanStand x = new CleanStand();
        due("23 no ticks", x.lasts(0, 0), NOT);
        loads(x, 0, 0, 0, 9, 9, 9);
        due("23 nothing is used", x.lasts(0, 0), 9999);
        x.dose(0, 0, 7);
        due("23 1000 by 21", x.lasts(0, 0), 47);
        x.set(0, 20);
        due("23 the tank goes empty", x.lasts(0, 0), 1);
        x.set(0, 0);
        due("23 no tank, nothing is used", x.lasts(0, 0), 9999);
        x.set(0, 9999);
        x.dose(0, 0, 1);
        x.drive(1, 1, 0);
        x.tick(1, 0, 0, 0, 0, 0);
        due("23 9999 by 1", x.lasts(0, 1), 9999);
        due("23 9999 by 3", x.lasts(0, 0), 3333);
        due("23 unknown", x.lasts(4, 0), UNKNOWN);
        due("23 unknown", x.lasts(-1, 5), UNKNOWN);
        due("23 unknown", x.lasts(0, 6), UNKNOWN);
        due("23 unknown", x.lasts(0, -1), UNKNOWN);
    }

    private static void saves() {
        CleanStand x = new CleanStand();
        x.dose(0, 0, 3);
        x.dose(1, 0, 10);
        programmed(x, 2, "map 1");
        loads(x, 0, 0, 0, 1, 1, 1);
        due("24 stands do not count", x.saves(0, 2), 0);
        loads(x, 1, 1, 0, 1, 1);
        loads(x, 4, 1, 0, 1);
        due("24 saves", x.saves(0, 2), 21);
        due("24 below 0", x.saves(2, 0), -21);
        due("24 itself", x.saves(2, 2), 0);
        loads(x, 0, 1, 0, 1, 1, 1);
        due("24 the first drive", x.saves(0, 2), 42);
        due("24 unknown", x.saves(4, 0), LEAST);
        due("24 unknown", x.saves(0, 4), LEAST);
        due("24 unknown", x.saves(-1, 0), LEAST);
        due("24 unknown", x.saves(0, -1), LEAST);
    }

    private static void cars() {
        CleanStand x = new CleanStand();
        due("25 cars", x.cars(3, 0, 9999), 0);
        due("25 cars", x.cars(3, 0, 0), 9999);
        due("25 fee", x.cars(3, 1, 999), 0);
        due("25 fee", x.cars(3, 1, 0), 999);
        due("25 apart", x.cars(2, 0, 5), 0);
        due("25 apart", x.cars(2, 1, 6), 0);
        due("25 apart", x.cars(2, 0, 7), 5);
        due("25 unknown", x.cars(4, 0, 0), UNKNOWN);
        due("25 unknown", x.cars(-1, 9, -9), UNKNOWN);
        due("25 outside", x.cars(2, 2, 0), OUTSIDE);
        due("25 outside", x.cars(2, -1, 0), OUTSIDE);
        due("25 outside", x.cars(2, 0, 10000), OUTSIDE);
        due("25 outside", x.cars(2, 0, -1), OUTSIDE);
        due("25 outside", x.cars(2, 1, 1000), OUTSIDE);
        due("25 outside", x.cars(2, 1, -1), OUTSIDE);
        due("25 refused changes nothing", x.cars(2, 0, 7), 7);
        due("25 refused changes nothing", x.cars(2, 1, 6), 6);
    }

    /** Versions 0 and 3 dirty; 1 uses 10 a tick, 2 uses 12, on one stand and on a road of two ticks. */
    private static CleanStand fixes() {
        CleanStand x = loads(loads(new CleanStand(), 0, 0, 0, 40), 1, 1, 0, 40, 40);
        x.dose(1, 0, 10);
        x.dose(2, 0, 12);
        programmed(x, 1, "map 1");
        programmed(x, 2, "map 2");
        return lawed(x, 0, "gram 0");
    }

    private static void fix() {
        CleanStand x = fixes();
        due("26 to which", x.fix(0, 0, 0), 1);
        due("26 what is used more", x.fix(0, 0, 1), 20);
        due("26 itself", x.fix(2, 0, 1), 0);
        due("26 the least of several: 1 for 2 costs nothing", x.fix(2, 0, 0), 1);
        x.cars(1, 1, 4);
        due("26 with the fee", x.fix(0, 0, 1), 24);
        due("26 as cheap, and less", x.fix(0, 0, 0), 1);
        due("26 a fee for another, and what is used less gives nothing back", x.fix(2, 0, 0), 2);
        due("26 none to itself", x.fix(1, 0, 0), 1);
        due("26 none to itself", x.fix(1, 0, 1), 0);
        x.cars(1, 1, 5);
        due("26 another one is cheaper", x.fix(0, 0, 0), 2);
        due("26 another one is cheaper", x.fix(0, 0, 1), 24);
        x.cars(0, 1, 999);
        due("26 the fee is that of the one to which", x.fix(0, 0, 1), 24);
        x.set(2, 24);
        due("26 buying back costs as much", x.fix(0, 0, 0), 2);
        x.set(2, 23);
        due("26 buying back costs less", x.fix(0, 0, 0), 4);
        due("26 buying back costs less", x.fix(0, 0, 1), 23);
        x.set(2, 0);
        due("26 nothing is not less than nothing", x.fix(2, 0, 0), 2);
        x.set(2, 99999);
        programmed(x, 1, "map 0");
        programmed(x, 2, "map 0");
        due("26 there is none", x.fix(2, 0, 0), 4);
        due("26 there is none", x.fix(2, 0, 1), 99999);
        due("26 another land has no law", x.fix(3, 1, 0), 2);
        due("26 another land has no law", x.fix(3, 1, 1), 0);
        programmed(x, 3, "map 2");
        due("26 to the last one", x.fix(1, 0, 0), 3);
        due("26 to the last one", x.fix(1, 0, 1), 24);
        programmed(x, 0, "map 1");
        x.cars(0, 1, 3);
        due("26 to the first one", x.fix(1, 0, 0), 0);
        due("26 to the first one", x.fix(1, 0, 1), 23);
        due("26 unknown", x.fix(4, 0, 0), UNKNOWN);
        due("26 unknown", x.fix(0, 2, 0), UNKNOWN);
        due("26 unknown", x.fix(-1, 0, 9), UNKNOWN);
        due("26 unknown", x.fix(0, -1, 9), UNKNOWN);
        due("26 outside", x.fix(0, 0, 2), OUTSIDE);
        due("26 outside", x.fix(0, 0, -1), OUTSIDE);
    }

    private static void owed() {
        CleanStand x = fixes();
        due("27 no cars", x.owed(0), 0);
        x.cars(0, 0, 3);
        x.cars(1, 0, 100);
        x.cars(3, 0, 7);
        due("27 owed", x.owed(0), 10 * 20);
        x.cars(1, 1, 9);
        x.cars(2, 1, 2);
        due("27 by the other one", x.owed(0), 10 * 26);
        due("27 no law", x.owed(1), 0);
        x.set(2, 5);
        due("27 bought back", x.owed(0), 50);
        x.set(2, 99999);
        programmed(x, 1, "map 0");
        programmed(x, 2, "map 0");
        x.cars(0, 0, 9893);
        due("27 below the most", x.owed(0), (9893 + 107) * 99999);
        x.cars(0, 0, 9894);
        due("27 the most", x.owed(0), 999999999);
        x.cars(0, 0, 9999);
        x.cars(1, 0, 9999);
        x.cars(2, 0, 9999);
        x.cars(3, 0, 9999);
        due("27 the most", x.owed(0), 999999999);
        due("27 unknown", x.owed(2), UNKNOWN);
        due("27 unknown", x.owed(-1), UNKNOWN);
    }

    private static void cost() {
        CleanStand x = new CleanStand();
        due("28 cost", x.cost(5, 99), 1);
        due("28 cost", x.cost(5, 0), 99);
        due("28 cost", x.cost(5, 3), 0);
        due("28 apart", x.cost(4, 3), 1);
        due("28 unknown", x.cost(6, 100), UNKNOWN);
        due("28 unknown", x.cost(-1, 0), UNKNOWN);
        due("28 outside", x.cost(5, 100), OUTSIDE);
        due("28 outside", x.cost(5, -1), OUTSIDE);
        due("28 refused changes nothing", x.cost(5, 3), 3);
    }

    private static void looks() {
        CleanStand x = new CleanStand();
        due("29 none", x.looks(0, 0), 0);
        due("29 none", x.looks(0, 1), 0);
        due("29 none", x.looks(0, 2), 0);
        loads(x, 2, 0, 0, 10, 10, 11);
        due("29 31 in 3 ticks", x.looks(1033, 2), 15);
        due("29 not more", x.looks(1034, 2), 0);
        loads(x, 2, 0, 0, 10, 10);
        due("29 just as much", x.looks(1000, 2), 0);
        due("29 more", x.looks(999, 0), 4);
        x.cost(2, 0);
        due("29 costs nothing", x.looks(999, 1), 0);
        due("29 a look that costs nothing and catches", x.looks(999, 0), 4);
        due("29 outside", x.looks(100000, 0), OUTSIDE);
        due("29 outside", x.looks(-1, 0), OUTSIDE);
        due("29 outside", x.looks(0, 3), OUTSIDE);
        due("29 outside", x.looks(0, -1), OUTSIDE);
        due("29 the most", x.looks(99999, 0), 0);
        looksThatShare();
    }

    /** Drive 0 catches version 0, drive 1 version 1, drive 2 both. */
    private static void looksThatShare() {
        CleanStand x = new CleanStand();
        x.dose(1, 0, 60);
        programmed(x, 0, "map 0 when heat below 1;map 0 when heat above 1;map 1");
        programmed(x, 1, "map 0 when heat above 0;map 1");
        programmed(x, 2, "map 1");
        programmed(x, 3, "map 1");
        x.tick(0, 0, 90, 0, 0, 0);
        x.tick(1, 0, 90, 0, 0, 1);
        x.tick(2, 0, 90, 0, 0, 2);
        due("29 caught", x.looks(100, 2), 3);
        due("29 one look", x.looks(100, 0), 4);
        x.cost(2, 2);
        due("29 as dear: the least number", x.looks(100, 0), 3);
        due("29 as dear", x.looks(100, 1), 2);
        x.cost(1, 2);
        due("29 the cheaper one", x.looks(100, 0), 4);
        due("29 the cheaper one", x.looks(100, 1), 2);
        x.cost(0, 0);
        due("29 with one that costs nothing: the least number", x.looks(100, 0), 3);
        x.cost(0, 1);
        x.cost(2, 99);
        due("29 costs", x.looks(100, 1), 3);
    }

    private static void months() {
        CleanStand x = new CleanStand();
        due("30 outside", x.months(0), OUTSIDE);
        due("30 outside", x.months(-1), OUTSIDE);
        due("30 outside", x.months(61), OUTSIDE);
        due("30 outside", x.months(MOST), OUTSIDE);
        due("30 outside", x.months(LEAST), OUTSIDE);
        due("30 one", x.months(1), 1);
        due("30 sixty", x.months(60), 61);
        x.months(60);
        x.months(60);
        due("30 beyond 200", x.months(20), OUTSIDE);
        due("30 up to 200", x.months(19), 200);
        due("30 beyond 200", x.months(1), OUTSIDE);
        due("30 it stays", x.count(0), 200);
    }

    private static void ask() {
        CleanStand x = new CleanStand();
        due("31 ask", x.ask(1, 3, 7), 0);
        due("31 again", x.ask(1, 3, 7), 1);
        due("31 unknown", x.ask(2, 0, 0), UNKNOWN);
        due("31 unknown", x.ask(-1, 0, 9), UNKNOWN);
        due("31 unknown", x.ask(0, 4, 9), UNKNOWN);
        due("31 unknown", x.ask(0, -1, 0), UNKNOWN);
        due("31 outside", x.ask(0, 0, 8), OUTSIDE);
        due("31 outside", x.ask(0, 0, -1), OUTSIDE);
        for (int i = 2; i < 20; i++) {
            due("31 ask", x.ask(0, 0, 0), i);
        }
        due("31 full", x.ask(0, 0, 0), FULL);
        due("31 outside ahead of full", x.ask(0, 0, 8), OUTSIDE);
        due("31 unknown ahead of full", x.ask(2, 0, 8), UNKNOWN);
        due("31 twenty", x.count(3), 20);
        due("31 the last is told", x.tell(19), 1);
    }

    private static void tell() {
        CleanStand x = new CleanStand();
        due("32 nothing asked", x.tell(0), UNKNOWN);
        x.ask(0, 0, 0);
        x.ask(0, 0, 1);
        due("32 unknown", x.tell(2), UNKNOWN);
        due("32 unknown", x.tell(-1), UNKNOWN);
        due("32 told", x.tell(1), 1);
        due("32 it was", x.tell(1), NOT);
        due("32 how many", x.count(4), 1);
        x.months(5);
        due("32 it was", x.tell(1), NOT);
        due("32 in its month still", x.known(0, 0, 0), 2);
        due("32 later", x.tell(0), 1);
        due("32 later", x.known(0, 0, 4), 2);
        due("32 later", x.known(0, 0, 5), 3);
    }

    private static void known() {
        CleanStand x = new CleanStand();
        x.months(10);
        x.ask(1, 2, 7);
        x.ask(1, 2, 0);
        x.ask(1, 2, 7);
        x.ask(1, 3, 5);
        x.ask(0, 2, 4);
        due("33 asked is not known", x.known(1, 2, 200), 0);
        x.months(1);
        x.tell(2);
        x.months(9);
        x.tell(0);
        x.tell(1);
        x.tell(3);
        x.tell(4);
        due("33 ahead", x.known(1, 2, 10), 0);
        due("33 by then", x.known(1, 2, 11), 128);
        due("33 by then", x.known(1, 2, 19), 128);
        due("33 later", x.known(1, 2, 20), 129);
        due("33 a month that is not yet", x.known(1, 2, 200), 129);
        due("33 another version", x.known(1, 3, 20), 32);
        due("33 another land", x.known(0, 2, 20), 16);
        due("33 month 0", x.known(0, 2, 0), 0);
        due("33 unknown", x.known(2, 0, 0), UNKNOWN);
        due("33 unknown", x.known(-1, 0, 201), UNKNOWN);
        due("33 unknown", x.known(0, 4, 0), UNKNOWN);
        due("33 unknown", x.known(0, -1, -1), UNKNOWN);
        due("33 outside", x.known(0, 0, 201), OUTSIDE);
        due("33 outside", x.known(0, 0, -1), OUTSIDE);
    }

    private static void comes() {
        CleanStand x = new CleanStand();
        x.dose(1, 0, 5);
        programmed(x, 3, "map 1");
        loads(x, 0, 1, 0, 31, 20);
        loads(x, 1, 1, 1, 40);
        loads(x, 2, 1, 1, 33);
        loads(x, 3, 1, 3, 99);
        loads(x, 4, 0, 2, 50);
        due("34 no cars", x.comes(0), 0);
        x.cars(1, 0, 1);
        x.cars(3, 0, 2);
        // 51 + 2 * 11; 40 + 33 + 2 * (20 + 13); nothing of a stand; 99 + 2 * 79.
        long[] own = {73, 139, 0, 257};
        for (int street = 0; street < 4; street++) {
            due("34 no wind", x.comes(street), own[street]);
        }
        x.set(3, 30);
        long[] blown = {21, 41, 0, 77};
        for (int street = 0; street < 4; street++) {
            due("34 wind", x.comes(street), own[street] - blown[street] + blown[(street + 3) % 4]);
        }
        x.set(3, 100);
        for (int street = 0; street < 4; street++) {
            due("34 all goes on", x.comes(street), own[(street + 3) % 4]);
        }
        due("34 unknown", x.comes(4), UNKNOWN);
        due("34 unknown", x.comes(-1), UNKNOWN);
        CleanStand y = new CleanStand();
        for (int drive = 0; drive < 6; drive++) {
            y.drive(drive, 1, 0);
            for (int i = 0; i < 40; i++) {
                y.tick(drive, 159, 99, 0, 0, 0);
            }
        }
        for (int version = 0; version < 4; version++) {
            y.cars(version, 0, 9999);
        }
        y.set(1, 20);
        y.set(3, 100);
        due("34 the most", y.comes(1), 4L * 9999 * 6 * (40 * 178 + 20 * 20));
    }

    private static void count() {
        CleanStand x = new CleanStand();
        x.months(7);
        written(x, "map");
        loads(x, 0, 0, 0, 1, 1);
        loads(x, 5, 1, 0, 1, 1, 1, 1);
        x.measure(5, 0, 1);
        x.measure(5, 0, 1);
        x.ask(0, 0, 0);
        x.ask(0, 0, 0);
        x.ask(0, 0, 0);
        x.ask(0, 0, 0);
        x.tell(3);
        due("35 told", x.count(4), 1);
        x.tell(0);
        due("35 month", x.count(0), 7);
        due("35 bytes", x.count(1), 3);
        due("35 measures", x.count(2), 2);
        due("35 asked", x.count(3), 4);
        due("35 told", x.count(4), 2);
        due("35 ticks", x.count(5), 6);
        due("35 outside", x.count(6), OUTSIDE);
        due("35 outside", x.count(-1), OUTSIDE);
        due("35 outside", x.count(LEAST), OUTSIDE);
    }
}
