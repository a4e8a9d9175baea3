import java.util.ArrayList;
import java.util.Arrays;
import java.util.HashSet;
import java.util.List;
import java.util.Set;
import java.util.regex.Matcher;
import java.util.regex.Pattern;

/**
 * The document told again in another way: lists and whole searches where CleanStand has rows and shortcuts.
 * OracleTests asks both the same things.
 */
final class Oracle {
    private static final List<String> WORDS =
        List.of("time", "wheel", "turned", "height", "heat", "speed", "load", "soot");
    private static final Pattern TOKEN = Pattern.compile("[a-z]+|[0-9]+|[^ ]", Pattern.DOTALL);

    record Tick(int speed, int load, int turn, int height, int heat) { }

    record Test(int reading, boolean above, int number) {
        boolean holds(int value) {
            return above ? value > number : value < number;
        }
    }

    record Line(int map, List<Test> tests) { }

    record LawLine(String kind, int number) { }

    record Step(int map, int line, int used, int off, int air, boolean emptied) { }

    record Measure(int drive, int tick, int air) { }

    static final class Asked {
        int land;
        int version;
        int reading;
        int told = Integer.MAX_VALUE;
    }

    static final class Trip {
        int sort = 0;
        int street = 0;
        int cost = 1;
        List<Tick> ticks = new ArrayList<>();
    }

    private final List<Trip> trips = new ArrayList<>();
    private final List<List<Line>> programs = new ArrayList<>();
    private final List<List<LawLine>> laws = new ArrayList<>();
    private final int[][] doses = new int[4][4];
    private final int[] settings = {1000, 100, 1000, 0};
    private final int[] cars = new int[4];
    private final int[] fees = new int[4];
    private final List<Measure> measures = new ArrayList<>();
    private final List<Asked> asked = new ArrayList<>();
    private final StringBuilder text = new StringBuilder();
    private int month = 0;

    Oracle() {
        for (int i = 0; i < 6; i++) {
            trips.add(new Trip());
        }
        for (int i = 0; i < 4; i++) {
            programs.add(List.of());
        }
        laws.add(List.of());
        laws.add(List.of());
    }

    private static boolean in(long v, long least, long most) {
        return least <= v && v <= most;
    }

    int drive(int drive, int sort, int street) {
        if (!in(drive, 0, 5) || !in(street, 0, 3)) return -2;
        if (!in(sort, 0, 1)) return -3;
        Trip trip = trips.get(drive);
        trip.sort = sort;
        trip.street = street;
        trip.ticks = new ArrayList<>();
        return 1;
    }

    int tick(int drive, int speed, int load, int turn, int height, int heat) {
        if (!in(drive, 0, 5)) return -2;
        if (!in(speed, 0, 159) || !in(load, 0, 99) || !in(turn, -9, 9)) return -3;
        if (!in(height, 0, 30) || !in(heat, 0, 60)) return -3;
        List<Tick> ticks = trips.get(drive).ticks;
        if (ticks.size() == 40) return -5;
        ticks.add(new Tick(speed, load, turn, height, heat));
        return ticks.size();
    }

    int dose(int map, int klass, int v) {
        if (!in(map, 0, 3)) return -2;
        if (!in(klass, 0, 3) || !in(v, 0, 60)) return -3;
        int was = doses[map][klass];
        doses[map][klass] = v;
        return was;
    }

    int set(int what, int v) {
        boolean fits = what == 0 && in(v, 0, 9999) || what == 1 && in(v, 20, 999)
            || what == 2 && in(v, 0, 99999) || what == 3 && in(v, 0, 100);
        if (!fits) return -3;
        int was = settings[what];
        settings[what] = v;
        return was;
    }

    private int readingOf(List<Tick> ticks, int at, int reading) {
        Tick tick = ticks.get(at);
        return switch (reading) {
            case 0 -> at;
            case 1 -> Math.abs(tick.turn());
            case 2 -> ticks.subList(0, at + 1).stream().mapToInt(t -> Math.abs(t.turn())).sum();
            case 3 -> tick.height();
            case 4 -> tick.heat();
            case 5 -> tick.speed();
            case 6 -> tick.load();
            default -> sootAhead(ticks, at);
        };
    }

    private int sootAhead(List<Tick> ticks, int at) {
        int in = 0;
        for (Tick tick : ticks.subList(0, at)) {
            in += tick.load() / 8;
            if (in > settings[1]) in = 0;
        }
        return in;
    }

    private boolean isTick(int drive, int tick) {
        return in(drive, 0, 5) && in(tick, 0, trips.get(drive).ticks.size() - 1);
    }

    int reading(int drive, int tick, int reading) {
        if (!isTick(drive, tick)) return -2;
        return in(reading, 0, 7) ? readingOf(trips.get(drive).ticks, tick, reading) : -3;
    }

    int write(long bytes, int n) {
        if (!in(n, 1, 8)) return -3;
        if (text.length() + n > 160) return -5;
        for (int i = 0; i < n; i++) {
            text.append((char) ((bytes >> (8 * i)) & 255));
        }
        return text.length();
    }

    int erase() {
        int had = text.length();
        text.setLength(0);
        return had;
    }

    /** The TOKENS with their places, the end being an empty one; then a walk along them. */
    private static final class Walk {
        final List<String> tokens = new ArrayList<>();
        final List<Integer> places = new ArrayList<>();
        int at = 0;

        Walk(String text) {
            Matcher matcher = TOKEN.matcher(text);
            while (matcher.find()) {
                tokens.add(matcher.group());
                places.add(matcher.start());
            }
            tokens.add("");
            places.add(text.length());
        }

        String now() {
            return tokens.get(at);
        }

        boolean eat(String word) {
            if (!now().equals(word)) return false;
            at++;
            return true;
        }

        void need(boolean stands) throws Fault {
            if (!stands) throw new Fault(places.get(at));
        }

        int number(int most) throws Fault {
            need(now().matches("[0-9]{1,3}") && Integer.parseInt(now()) <= most);
            return Integer.parseInt(tokens.get(at++));
        }

        int reading() throws Fault {
            need(WORDS.contains(now()));
            return WORDS.indexOf(tokens.get(at++));
        }
    }

    private static final class Fault extends Exception {
        private static final long serialVersionUID = 1L;
        final int place;

        Fault(int place) {
            this.place = place;
        }
    }

    private List<Line> asProgram() throws Fault {
        Walk walk = new Walk(text.toString());
        List<Line> lines = new ArrayList<>();
        while (true) {
            walk.need(walk.eat("map"));
            int map = walk.number(3);
            List<Test> tests = new ArrayList<>();
            boolean more = walk.eat("when");
            while (more) {
                int reading = walk.reading();
                walk.need(walk.now().equals("below") || walk.now().equals("above"));
                boolean above = walk.eat("above") || !walk.eat("below");
                tests.add(new Test(reading, above, walk.number(999)));
                more = tests.size() < 4 && walk.eat("and");
            }
            lines.add(new Line(map, tests));
            if (walk.now().isEmpty()) return lines;
            walk.need(lines.size() < 6 && walk.eat(";"));
        }
    }

    private List<LawLine> asLaw() throws Fault {
        Walk walk = new Walk(text.toString());
        List<LawLine> lines = new ArrayList<>();
        while (true) {
            String kind = walk.now();
            walk.need(List.of("gram", "road", "ban", "ask").contains(kind));
            walk.at++;
            boolean reads = kind.equals("ban") || kind.equals("ask");
            lines.add(new LawLine(kind, reads ? walk.reading() : walk.number(999)));
            if (walk.now().isEmpty()) return lines;
            walk.need(lines.size() < 8 && walk.eat(";"));
        }
    }

    int fault(int what) {
        if (!in(what, 0, 1)) return -3;
        try {
            if (what == 0) {
                asProgram();
            } else {
                asLaw();
            }
            return -1;
        } catch (Fault fault) {
            return fault.place;
        }
    }

    int program(int version) {
        if (!in(version, 0, 3)) return -2;
        try {
            programs.set(version, asProgram());
        } catch (Fault fault) {
            return -4;
        }
        text.setLength(0);
        return programs.get(version).size();
    }

    int law(int land) {
        if (!in(land, 0, 1)) return -2;
        try {
            laws.set(land, asLaw());
        } catch (Fault fault) {
            return -4;
        }
        text.setLength(0);
        return laws.get(land).size();
    }

    private int lineAt(int version, List<Tick> ticks, int at) {
        List<Line> lines = programs.get(version);
        for (int i = 0; i < lines.size(); i++) {
            boolean all = lines.get(i).tests().stream()
                .allMatch(test -> test.holds(readingOf(ticks, at, test.reading())));
            if (all) return i;
        }
        return -1;
    }

    private int mapAt(int version, List<Tick> ticks, int at) {
        int line = lineAt(version, ticks, at);
        return line < 0 ? 0 : programs.get(version).get(line).map();
    }

    private List<Step> steps(int version, int drive) {
        List<Tick> ticks = trips.get(drive).ticks;
        List<Step> steps = new ArrayList<>();
        int tank = settings[0];
        for (int i = 0; i < ticks.size(); i++) {
            Tick tick = ticks.get(i);
            int map = mapAt(version, ticks, i);
            int raw = tick.load() + tick.speed() / 2;
            int used = Math.min(tank, doses[map][tick.speed() / 40]);
            tank -= used;
            int off = Math.min(raw, 4 * used);
            boolean emptied = sootAhead(ticks, i) + tick.load() / 8 > settings[1];
            steps.add(new Step(map, lineAt(version, ticks, i), used, off, raw - off + (emptied ? 20 : 0), emptied));
        }
        return steps;
    }

    int run(int version, int drive, int tick, int what) {
        if (!in(version, 0, 3) || !isTick(drive, tick)) return -2;
        if (!in(what, 0, 4)) return -3;
        Step step = steps(version, drive).get(tick);
        return new int[] {step.map(), step.line(), step.used(), step.off(), step.air()}[what];
    }

    int all(int version, int drive, int what) {
        if (!in(version, 0, 3) || !in(drive, 0, 5)) return -2;
        if (!in(what, 2, 5)) return -3;
        return steps(version, drive).stream().mapToInt(step ->
            what == 2 ? step.used() : what == 3 ? step.off() : what == 4 ? step.air() : step.emptied() ? 1 : 0).sum();
    }

    private int air(int version, int drive) {
        return all(version, drive, 4);
    }

    int bound(int test) {
        if (!in(test, 0, 15)) return -3;
        List<Integer> values = new ArrayList<>();
        for (Trip trip : trips) {
            for (int i = 0; trip.sort == 0 && i < trip.ticks.size(); i++) {
                values.add(readingOf(trip.ticks, i, test / 2));
            }
        }
        if (values.isEmpty()) return -1;
        values.sort(null);
        if (test % 2 == 0) return values.get(values.size() - 1) + 1;
        return values.get(0) == 0 ? -1 : values.get(0) - 1;
    }

    int parts(int test) {
        if (!in(test, 0, 15)) return -3;
        int number = bound(test);
        if (number < 0) return 0;
        Test parting = new Test(test / 2, test % 2 == 1, number);
        int bits = 0;
        for (int drive = 0; drive < 6; drive++) {
            Trip trip = trips.get(drive);
            boolean fails = false;
            for (int i = 0; i < trip.ticks.size(); i++) {
                fails |= !parting.holds(readingOf(trip.ticks, i, test / 2));
            }
            if (trip.sort == 1 && fails) bits |= 1 << drive;
        }
        return bits;
    }

    int fewest() {
        int[] parted = new int[16];
        int all = 0;
        for (int test = 0; test < 16; test++) {
            parted[test] = parts(test);
            all |= parted[test];
        }
        int best = 65535;
        for (int set = 0; set < 65536; set++) {
            int by = 0;
            for (int test = 0; test < 16; test++) {
                if ((set >> test & 1) == 1) by |= parted[test];
            }
            if (by == all && Integer.bitCount(set) < Integer.bitCount(best)) best = set;
        }
        return best;
    }

    int spy(int version, int drive, int map) {
        if (!in(version, 0, 3) || !in(drive, 0, 5) || !in(map, 0, 3)) return -2;
        List<Tick> ticks = trips.get(drive).ticks;
        for (int turn = 0; turn <= 9; turn++) {
            for (int at = 0; at < ticks.size(); at++) {
                Tick old = ticks.get(at);
                if (old.turn() == turn) continue;
                List<Tick> other = new ArrayList<>(ticks);
                other.set(at, new Tick(old.speed(), old.load(), turn, old.height(), old.heat()));
                boolean taken = false;
                for (int i = at; i < other.size(); i++) {
                    taken |= mapAt(version, other, i) == map;
                }
                if (!taken) return 64 * turn + at;
            }
        }
        return -1;
    }

    int measure(int drive, int tick, int air) {
        if (!isTick(drive, tick)) return -2;
        if (!in(air, 0, 9999)) return -3;
        if (measures.size() == 20) return -5;
        measures.add(new Measure(drive, tick, air));
        return measures.size();
    }

    int lets() {
        int bits = 0;
        for (int version = 0; version < 4; version++) {
            boolean let = true;
            for (Measure measure : measures) {
                let &= isTick(measure.drive(), measure.tick())
                    && steps(version, measure.drive()).subList(0, measure.tick() + 1).stream()
                        .mapToInt(Step::air).sum() == measure.air();
            }
            if (let) bits |= 1 << version;
        }
        return bits;
    }

    int parting(int what) {
        if (!in(what, 0, 1)) return -3;
        int let = lets();
        if (let == 0) return what == 0 ? -1 : 0;
        int[] unlike = new int[6];
        for (int drive = 0; drive < 6; drive++) {
            Set<Integer> airs = new HashSet<>();
            for (int version = 0; version < 4; version++) {
                if ((let >> version & 1) == 1) airs.add(air(version, drive));
            }
            unlike[drive] = airs.size();
        }
        int most = Arrays.stream(unlike).max().getAsInt();
        int first = 0;
        while (unlike[first] != most) first++;
        return what == 0 ? first : most;
    }

    private boolean tests(int version, int reading) {
        return programs.get(version).stream().flatMap(line -> line.tests().stream())
            .anyMatch(test -> test.reading() == reading);
    }

    private boolean someAbove(int version, int sort, long times, long limit) {
        for (int drive = 0; drive < 6; drive++) {
            int ticks = trips.get(drive).ticks.size();
            if (trips.get(drive).sort == sort && ticks > 0 && times * air(version, drive) > limit * ticks) return true;
        }
        return false;
    }

    int breaks(int version, int land) {
        if (!in(version, 0, 3) || !in(land, 0, 1)) return -2;
        List<LawLine> law = laws.get(land);
        var gram = law.stream().filter(line -> line.kind().equals("gram")).mapToInt(LawLine::number).min();
        int bits = 0;
        for (int i = 0; i < law.size(); i++) {
            int n = law.get(i).number();
            boolean broken = switch (law.get(i).kind()) {
                case "gram" -> someAbove(version, 0, 100, n);
                case "road" -> gram.isPresent() && someAbove(version, 1, 10000, (long) gram.getAsInt() * n);
                case "ban" -> tests(version, n);
                default -> tests(version, n) && asked.stream().noneMatch(a -> a.land == land
                    && a.version == version && a.reading == n && a.told != Integer.MAX_VALUE);
            };
            if (broken) bits |= 1 << i;
        }
        return bits;
    }

    int cold(int version, int map, int heat, int part) {
        if (!in(version, 0, 3) || !in(map, 0, 3)) return -2;
        if (!in(heat, 0, 61) || !in(part, 0, 1)) return -3;
        int many = 0;
        int ofMany = 0;
        for (Trip trip : trips) {
            for (int i = 0; trip.sort == 1 && i < trip.ticks.size(); i++) {
                if (mapAt(version, trip.ticks, i) != map) {
                    ofMany++;
                    if (trip.ticks.get(i).heat() < heat) many++;
                }
            }
        }
        return part == 0 ? many : ofMany;
    }

    int lasts(int version, int drive) {
        if (!in(version, 0, 3) || !in(drive, 0, 5)) return -2;
        if (trips.get(drive).ticks.isEmpty()) return -4;
        int used = all(version, drive, 2);
        int times = 0;
        while (times < 9999 && (times + 1) * used <= settings[0]) times++;
        return times;
    }

    private int usedOnRoads(int version) {
        int sum = 0;
        for (int drive = 0; drive < 6; drive++) {
            if (trips.get(drive).sort == 1) sum += all(version, drive, 2);
        }
        return sum;
    }

    int saves(int version, int other) {
        if (!in(version, 0, 3) || !in(other, 0, 3)) return Integer.MIN_VALUE;
        return usedOnRoads(other) - usedOnRoads(version);
    }

    int cars(int version, int what, int v) {
        if (!in(version, 0, 3)) return -2;
        if (!in(what, 0, 1) || !in(v, 0, what == 0 ? 9999 : 999)) return -3;
        int[] row = what == 0 ? cars : fees;
        int was = row[version];
        row[version] = v;
        return was;
    }

    /** {to which, its cost}. */
    private int[] cheapest(int version, int land) {
        int[] best = null;
        for (int to = 0; to < 4; to++) {
            if (breaks(to, land) != 0) continue;
            int more = usedOnRoads(to) - usedOnRoads(version);
            int cost = (to == version ? 0 : fees[to]) + (more > 0 ? more : 0);
            if (best == null || cost < best[1]) best = new int[] {to, cost};
        }
        return best == null || settings[2] < best[1] ? new int[] {4, settings[2]} : best;
    }

    int fix(int version, int land, int what) {
        if (!in(version, 0, 3) || !in(land, 0, 1)) return -2;
        return in(what, 0, 1) ? cheapest(version, land)[what] : -3;
    }

    int owed(int land) {
        if (!in(land, 0, 1)) return -2;
        long sum = 0;
        for (int version = 0; version < 4; version++) {
            sum += (long) cars[version] * cheapest(version, land)[1];
        }
        return sum > 999999999 ? 999999999 : (int) sum;
    }

    int cost(int drive, int v) {
        if (!in(drive, 0, 5)) return -2;
        if (!in(v, 0, 99)) return -3;
        int was = trips.get(drive).cost;
        trips.get(drive).cost = v;
        return was;
    }

    int looks(int hundredths, int what) {
        if (!in(hundredths, 0, 99999) || !in(what, 0, 2)) return -3;
        int[] catches = new int[6];
        int all = 0;
        for (int drive = 0; drive < 6; drive++) {
            int ticks = trips.get(drive).ticks.size();
            for (int version = 0; version < 4; version++) {
                if (ticks > 0 && 100L * air(version, drive) > (long) hundredths * ticks) catches[drive] |= 1 << version;
            }
            all |= catches[drive];
        }
        int bestSet = -1;
        int bestCost = Integer.MAX_VALUE;
        for (int set = 0; set < 64; set++) {
            int caught = 0;
            int costs = 0;
            for (int drive = 0; drive < 6; drive++) {
                if ((set >> drive & 1) == 1) {
                    caught |= catches[drive];
                    costs += trips.get(drive).cost;
                }
            }
            if (caught == all && costs < bestCost) {
                bestSet = set;
                bestCost = costs;
            }
        }
        return new int[] {bestSet, bestCost, all}[what];
    }

    int months(int n) {
        if (!in(n, 1, 60) || month + n > 200) return -3;
        return month += n;
    }

    int ask(int land, int version, int reading) {
        if (!in(land, 0, 1) || !in(version, 0, 3)) return -2;
        if (!in(reading, 0, 7)) return -3;
        if (asked.size() == 20) return -5;
        Asked question = new Asked();
        question.land = land;
        question.version = version;
        question.reading = reading;
        asked.add(question);
        return asked.size() - 1;
    }

    int tell(int number) {
        if (!in(number, 0, asked.size() - 1)) return -2;
        if (asked.get(number).told != Integer.MAX_VALUE) return -4;
        asked.get(number).told = month;
        return 1;
    }

    int known(int land, int version, int byMonth) {
        if (!in(land, 0, 1) || !in(version, 0, 3)) return -2;
        if (!in(byMonth, 0, 200)) return -3;
        int bits = 0;
        for (Asked question : asked) {
            if (question.land == land && question.version == version && question.told <= byMonth) {
                bits |= 1 << question.reading;
            }
        }
        return bits;
    }

    long comes(int street) {
        if (!in(street, 0, 3)) return -2;
        long[] own = new long[4];
        for (int drive = 0; drive < 6; drive++) {
            for (int version = 0; version < 4; version++) {
                if (trips.get(drive).sort == 1) own[trips.get(drive).street] += (long) cars[version] * air(version, drive);
            }
        }
        long[] after = own.clone();
        for (int from = 0; from < 4; from++) {
            long blown = own[from] * settings[3] / 100;
            after[from] -= blown;
            after[(from + 1) % 4] += blown;
        }
        return after[street];
    }

    int count(int what) {
        return switch (what) {
            case 0 -> month;
            case 1 -> text.length();
            case 2 -> measures.size();
            case 3 -> asked.size();
            case 4 -> (int) asked.stream().filter(a -> a.told != Integer.MAX_VALUE).count();
            case 5 -> trips.stream().mapToInt(trip -> trip.ticks.size()).sum();
            default -> -3;
        };
    }
}
