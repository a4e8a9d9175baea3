import java.util.Random;

/** Long runs of calls, drawn by a fixed seed, on a CleanStand and on the Oracle: each answer is the same. */
public final class OracleTests {
    private static final String[] WORDS = {"time", "wheel", "turned", "height", "heat", "speed", "load", "soot"};
    private static final String[] NOISE =
        {"map", "when", "and", "below", "above", ";", "gram", "road", "ban", "ask", "0", "3", "4", "999", "1000", "0007",
            "heats", "A", "{", "`", "/", ":", "\t", "\u00e9", "mapp", "12a", "  "};
    private static final int RUNS = 1500, CALLS = 500, KINDS = 35;

    private final Random random;
    private final CleanStand stand = new CleanStand();
    private final Oracle oracle = new Oracle();
    private final int run;
    private final int longest;
    private int calls = 0;
    private int wrong = 0;

    private OracleTests(int run) {
        this.run = run;
        this.random = new Random(run);
        // Some runs stay with short drives, so that sets, ties and edges come up often; some fill them.
        this.longest = new int[] {1, 3, 6, 14, 40}[run % 5];
    }

    public static void main(String[] args) {
        int failed = 0;
        for (int run = 0; run < RUNS; run++) {
            OracleTests test = new OracleTests(run);
            test.go();
            failed += test.wrong == 0 ? 0 : 1;
        }
        System.out.println("OracleTests: " + (RUNS - failed) + " passed, " + failed + " failed");
        if (failed != 0) System.exit(1);
    }

    private void due(String call, long got, long want) {
        calls++;
        if (got != want && wrong++ < 5) {
            System.out.println("run " + run + ", call " + calls + ": " + call + " answered " + got + ", due is " + want);
        }
    }

    private void go() {
        while (calls < CALLS && wrong == 0) {
            int kind = random.nextInt(KINDS + 12);
            if (kind >= KINDS) {
                build(kind - KINDS);
            } else {
                askBoth(kind);
            }
        }
    }

    /** A number of 0 .. most; now and then the next ones outside, or the ends of int. */
    private int pick(int least, int most) {
        switch (random.nextInt(60)) {
            case 0: return least - 1;
            case 1: return most + 1;
            case 2: return random.nextBoolean() ? Integer.MIN_VALUE : Integer.MAX_VALUE;
            case 3: return least;
            case 4: return most;
            default: return least + random.nextInt(most - least + 1);
        }
    }

    private int pick(int most) {
        return pick(0, most);
    }

    /** What makes a state worth asking about. */
    private void build(int kind) {
        if (kind < 5) {
            addTicks();
        } else if (kind < 8) {
            newProgram();
        } else if (kind == 8) {
            newLaw();
        } else if (kind == 9) {
            setDose();
        } else if (kind == 10) {
            int drive = random.nextInt(6);
            int sort = random.nextInt(2);
            int street = random.nextInt(4);
            due("drive", stand.drive(drive, sort, street), oracle.drive(drive, sort, street));
        } else {
            measureTruly();
        }
    }

    private void addTicks() {
        int drive = random.nextInt(6);
        int calm = random.nextInt(3);
        for (int i = random.nextInt(longest) + 1; i > 0; i--) {
            int speed = random.nextInt(160);
            int load = random.nextInt(100);
            int turn = calm == 0 ? 0 : calm == 1 ? random.nextInt(3) - 1 : random.nextInt(19) - 9;
            int height = random.nextInt(31);
            int heat = random.nextInt(61);
            due("tick(" + drive + ")", stand.tick(drive, speed, load, turn, height, heat),
                oracle.tick(drive, speed, load, turn, height, heat));
        }
    }

    private void setDose() {
        for (int i = 0; i < 6; i++) {
            int map = random.nextInt(4);
            int klass = random.nextInt(4);
            int v = random.nextInt(61);
            due("dose", stand.dose(map, klass, v), oracle.dose(map, klass, v));
        }
    }

    private String number(int reading) {
        int most = new int[] {12, 10, 40, 31, 61, 160, 100, 120}[reading];
        String digits = String.valueOf(random.nextInt(20) == 0 ? random.nextInt(1000) : random.nextInt(most));
        return random.nextInt(12) == 0 && digits.length() < 3 ? "0" + digits : digits;
    }

    private String gap() {
        return random.nextInt(15) == 0 ? "  " : " ";
    }

    private String programText() {
        StringBuilder text = new StringBuilder();
        int lines = random.nextInt(random.nextInt(4) == 0 ? 7 : 3) + 1;
        for (int line = 0; line < lines; line++) {
            text.append(line == 0 ? "" : random.nextBoolean() ? ";" : " ; ").append("map").append(gap());
            text.append(random.nextInt(4));
            int tests = random.nextInt(random.nextInt(6) == 0 ? 6 : 3);
            for (int test = 0; test < tests; test++) {
                int reading = random.nextInt(3) == 0 ? random.nextInt(2) + 1 : random.nextInt(8);
                text.append(test == 0 ? " when " : " and ").append(WORDS[reading]).append(gap());
                text.append(random.nextBoolean() ? "below " : "above ").append(number(reading));
            }
        }
        return text.toString();
    }

    private String lawText() {
        StringBuilder text = new StringBuilder();
        int lines = random.nextInt(random.nextInt(4) == 0 ? 10 : 4) + 1;
        for (int line = 0; line < lines; line++) {
            text.append(line == 0 ? "" : random.nextBoolean() ? ";" : "; ");
            switch (random.nextInt(4)) {
                case 0: text.append("gram ").append(random.nextInt(1000)); break;
                case 1: text.append("road ").append(random.nextInt(1000)); break;
                case 2: text.append("ban ").append(WORDS[random.nextInt(8)]); break;
                default: text.append("ask ").append(WORDS[random.nextInt(8)]); break;
            }
        }
        return text.toString();
    }

    /** A text with a TOKEN, a byte or the end put wrong. */
    private String spoilt(String text) {
        int at = random.nextInt(text.length() + 1);
        switch (random.nextInt(4)) {
            case 0: return text.substring(0, at);
            case 1: return text.substring(0, at) + NOISE[random.nextInt(NOISE.length)] + text.substring(at);
            case 2: return text.substring(0, at) + (at < text.length() ? text.substring(at + 1) : ";");
            default: return text.replaceFirst(" ", " " + NOISE[random.nextInt(NOISE.length)] + " ");
        }
    }

    private void writeAll(String text) {
        int at = 0;
        while (at < text.length()) {
            int n = Math.min(text.length() - at, random.nextInt(8) + 1);
            n = random.nextInt(3) == 0 ? n : Math.min(8, text.length() - at);
            long bytes = random.nextInt(8) == 0 && n < 8 ? -1L << 8 * n : 0L;
            for (int i = 0; i < n; i++) {
                bytes |= (long) text.charAt(at + i) << 8 * i;
            }
            due("write", stand.write(bytes, n), oracle.write(bytes, n));
            at += n;
        }
    }

    private void newText(String text) {
        if (random.nextInt(10) != 0) {
            due("erase", stand.erase(), oracle.erase());
        }
        writeAll(random.nextInt(4) == 0 ? spoilt(text) : text);
        due("fault(0) of " + text, stand.fault(0), oracle.fault(0));
        due("fault(1) of " + text, stand.fault(1), oracle.fault(1));
    }

    private void newProgram() {
        String text = programText();
        newText(text);
        int version = pick(3);
        due("program of " + text, stand.program(version), oracle.program(version));
    }

    private void newLaw() {
        String text = lawText();
        newText(text);
        int land = pick(1);
        due("law of " + text, stand.law(land), oracle.law(land));
    }

    /** What a version really gives, so that some stay let. */
    private void measureTruly() {
        if (random.nextInt(4) != 0) {
            return;
        }
        int drive = random.nextInt(6);
        int tick = random.nextInt(longest);
        int air = 0;
        for (int i = 0; i <= tick; i++) {
            air += Math.max(0, oracle.run(1, drive, i, 4));
        }
        due("measure", stand.measure(drive, tick, air), oracle.measure(drive, tick, air));
    }

    private void askBoth(int kind) {
        if (kind < 12) {
            askOfDrivesAndTexts(kind);
        } else if (kind < 23) {
            askOfRunsAndLaws(kind);
        } else {
            askOfCostsAndStreets(kind);
        }
    }

    private void askOfDrivesAndTexts(int kind) {
        int a;
        int b;
        int c;
        switch (kind) {
            case 0:
                if (random.nextInt(4) == 0) {
                    a = pick(5);
                    b = pick(1);
                    c = pick(3);
                    due("drive(" + a + ", " + b + ", " + c + ")", stand.drive(a, b, c), oracle.drive(a, b, c));
                }
                break;
            case 1:
                a = pick(5);
                b = pick(159);
                c = pick(99);
                int turn = pick(-9, 9);
                int height = pick(30);
                int heat = pick(60);
                due("tick", stand.tick(a, b, c, turn, height, heat), oracle.tick(a, b, c, turn, height, heat));
                break;
            case 2:
                a = pick(3);
                b = pick(3);
                c = pick(60);
                due("dose", stand.dose(a, b, c), oracle.dose(a, b, c));
                break;
            case 3:
                a = pick(3);
                int most = random.nextInt(2) == 0 ? 150 : new int[] {9999, 999, 99999, 100}[Math.floorMod(a, 4)];
                b = a == 1 ? pick(20, most) : pick(most);
                due("set(" + a + ", " + b + ")", stand.set(a, b), oracle.set(a, b));
                break;
            case 4: case 5:
                a = pick(5);
                b = pick(longest);
                c = pick(7);
                due("reading(" + a + ", " + b + ", " + c + ")", stand.reading(a, b, c), oracle.reading(a, b, c));
                break;
            case 6:
                a = pick(1, 8);
                long bytes = random.nextLong();
                if (random.nextInt(6) == 0) due("write", stand.write(bytes, a), oracle.write(bytes, a));
                break;
            case 7:
                a = pick(1);
                due("fault(" + a + ")", stand.fault(a), oracle.fault(a));
                break;
            case 8:
                a = pick(5);
                due("count(" + a + ")", stand.count(a), oracle.count(a));
                break;
            case 9:
                if (random.nextInt(10) == 0) due("erase", stand.erase(), oracle.erase());
                break;
            case 10:
                a = pick(60);
                if (random.nextInt(5) == 0) due("months(" + a + ")", stand.months(a), oracle.months(a));
                break;
            default:
                a = pick(1);
                b = pick(3);
                c = pick(7);
                due("ask", stand.ask(a, b, c), oracle.ask(a, b, c));
                break;
        }
    }

    private void askOfRunsAndLaws(int kind) {
        int a = pick(3);
        int b = pick(5);
        switch (kind) {
            case 12:
                int tick = pick(longest);
                int what = pick(4);
                due("run(" + a + ", " + b + ", " + tick + ", " + what + ")",
                    stand.run(a, b, tick, what), oracle.run(a, b, tick, what));
                break;
            case 13:
                int sum = pick(2, 5);
                due("all(" + a + ", " + b + ", " + sum + ")", stand.all(a, b, sum), oracle.all(a, b, sum));
                break;
            case 14:
                int test = pick(15);
                due("parts(" + test + ")", stand.parts(test), oracle.parts(test));
                due("bound(" + test + ")", stand.bound(test), oracle.bound(test));
                break;
            case 15: case 16:
                if (random.nextInt(3) == 0) due("fewest()", stand.fewest(), oracle.fewest());
                break;
            case 17:
                int map = pick(3);
                due("spy(" + a + ", " + b + ", " + map + ")", stand.spy(a, b, map), oracle.spy(a, b, map));
                break;
            case 18:
                int at = pick(longest);
                int air = pick(9999);
                if (random.nextInt(20) == 0) due("measure", stand.measure(b, at, air), oracle.measure(b, at, air));
                break;
            case 19:
                due("lets()", stand.lets(), oracle.lets());
                break;
            case 20:
                int part = pick(1);
                due("parting(" + part + ")", stand.parting(part), oracle.parting(part));
                break;
            case 21:
                int land = pick(1);
                due("breaks(" + a + ", " + land + ")", stand.breaks(a, land), oracle.breaks(a, land));
                break;
            default:
                int m = pick(3);
                int heat = pick(61);
                int half = pick(1);
                due("cold(" + a + ", " + m + ", " + heat + ", " + half + ")",
                    stand.cold(a, m, heat, half), oracle.cold(a, m, heat, half));
                break;
        }
    }

    private void askOfCostsAndStreets(int kind) {
        int a = pick(3);
        int b;
        int c;
        switch (kind) {
            case 23:
                b = pick(5);
                due("lasts(" + a + ", " + b + ")", stand.lasts(a, b), oracle.lasts(a, b));
                break;
            case 24:
                b = pick(3);
                due("saves(" + a + ", " + b + ")", stand.saves(a, b), oracle.saves(a, b));
                break;
            case 25:
                b = pick(1);
                c = pick(random.nextInt(3) == 0 ? 9999 : 999);
                due("cars(" + a + ", " + b + ", " + c + ")", stand.cars(a, b, c), oracle.cars(a, b, c));
                break;
            case 26: case 27:
                b = pick(1);
                c = pick(1);
                due("fix(" + a + ", " + b + ", " + c + ")", stand.fix(a, b, c), oracle.fix(a, b, c));
                break;
            case 28:
                b = pick(1);
                due("owed(" + b + ")", stand.owed(b), oracle.owed(b));
                break;
            case 29:
                b = pick(5);
                c = random.nextBoolean() ? random.nextInt(4) : pick(99);
                due("cost(" + b + ", " + c + ")", stand.cost(b, c), oracle.cost(b, c));
                break;
            case 30: case 31:
                b = random.nextInt(5) == 0 ? pick(99999) : random.nextInt(14000);
                c = pick(2);
                due("looks(" + b + ", " + c + ")", stand.looks(b, c), oracle.looks(b, c));
                break;
            case 32:
                b = pick(oracle.count(3));
                if (random.nextInt(3) == 0) due("tell(" + b + ")", stand.tell(b), oracle.tell(b));
                break;
            case 33:
                b = pick(1);
                c = random.nextBoolean() ? oracle.count(0) : pick(200);
                due("known(" + b + ", " + a + ", " + c + ")", stand.known(b, a, c), oracle.known(b, a, c));
                break;
            default:
                b = pick(3);
                due("comes(" + b + ")", stand.comes(b), oracle.comes(b));
                break;
        }
    }
}
