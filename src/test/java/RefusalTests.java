import java.util.ArrayList;
import java.util.Arrays;
import java.util.List;
import java.util.function.Supplier;

/**
 * For each number of each call: the last that is taken and the first that is refused, on both sides; which refusal fits
 * first where two do; and that a refused call changes nothing that any call tells.
 */
public final class RefusalTests extends Checks {
    private static final int[] SOME_TICKS = {0, 2, 39};
    // A program of 160 bytes, the most that THE TEXT may have.
    private static final String LONG_PROGRAM = "map 3 when height above 6" + " ".repeat(135);

    /** A call by its numbers. */
    private interface Call {
        long on(CleanStand x, int... numbers);
    }

    /** What is asked of an object, to see what it holds; it may change it. */
    private interface Probe {
        void ask(CleanStand x, List<Long> answers);
    }

    /** The bounds of one number of a call, and how it is refused beyond them. */
    private record Bound(int least, int most, int refusal) { }

    private static Bound known(int least, int most) {
        return new Bound(least, most, UNKNOWN);
    }

    private static Bound inside(int least, int most) {
        return new Bound(least, most, OUTSIDE);
    }

    private static Bound bound(int least, int most, int refusal) {
        return new Bound(least, most, refusal);
    }

    private static final Bound A_DRIVE = known(0, 5), A_MAP = known(0, 3), A_VERSION = known(0, 3), A_LAND = known(0, 1);
    private static final Bound A_STREET = known(0, 3), A_READING = inside(0, 7);

    public static void main(String[] args) {
        probesSeeEachChange();
        drivesAndMaps();
        texts();
        runs();
        measuresAndLaws();
        tanksFixesLooks();
        askingAndStreets();
        fullOnes();
        notNow();
        askingChangesNothing();
        end("RefusalTests");
    }

    // ---- what the calls are tried on

    /** Something of everything, and nothing full: three ticks on a stand, roads with two and one, two drives without. */
    private static CleanStand some(String text) {
        CleanStand x = new CleanStand();
        x.tick(0, 50, 20, 1, 10, 20);
        x.tick(0, 60, 40, 2, 11, 21);
        x.tick(0, 70, 60, -3, 12, 22);
        x.drive(1, 1, 2);
        x.tick(1, 110, 90, 5, 4, 3);
        x.tick(1, 130, 99, -9, 20, 40);
        x.tick(3, 40, 30, 1, 10, 20);
        x.drive(5, 1, 3);
        x.tick(5, 90, 80, 0, 0, 60);
        x.dose(1, 2, 5);
        x.dose(1, 3, 6);
        x.dose(2, 2, 9);
        programmed(x, 0, "map 1 when heat above 5;map 2");
        programmed(x, 1, "map 1 when turned below 5 and load above 3");
        programmed(x, 3, "map 2");
        lawed(x, 0, "gram 900;road 150;ban turned;ask heat");
        lawed(x, 1, "gram 100");
        x.cars(0, 0, 11);
        x.cars(2, 0, 12);
        x.cars(1, 1, 13);
        x.cost(1, 3);
        x.set(0, 30);
        x.set(1, 21);
        x.set(2, 70);
        x.set(3, 10);
        x.measure(0, 0, 45);
        x.measure(3, 0, 50);
        x.months(7);
        x.ask(0, 0, 4);
        x.ask(1, 2, 7);
        x.ask(0, 1, 2);
        x.tell(1);
        x.months(2);
        return written(x, text);
    }

    /** Two drives with 40 ticks, 20 measures, 20 things asked, the text of 160 bytes, the last month. */
    private static CleanStand full() {
        CleanStand x = new CleanStand();
        x.drive(5, 1, 3);
        for (int tick = 0; tick < TICKS; tick++) {
            x.tick(0, 60, 50, tick % 3, 10, 20);
            x.tick(5, 100, 70, -tick % 10, 12, tick);
        }
        for (int i = 0; i < 20; i++) {
            x.measure(5, i, 120 * (i + 1));
            x.ask(i % 2, i % 4, i % 8);
        }
        x.tell(3);
        x.cars(2, 0, 9);
        x.months(60);
        x.months(60);
        x.months(60);
        x.months(20);
        return written(x, LONG_PROGRAM);
    }

    // ---- whether anything has changed

    private static final Probe[] PROBES = {
        RefusalTests::askDrives, RefusalTests::askRuns, RefusalTests::askText, RefusalTests::askAsked, RefusalTests::askKept,
    };

    private static void askDrives(CleanStand x, List<Long> answers) {
        for (int what = 0; what <= 5; what++) {
            answers.add((long) x.count(what));
        }
        for (int drive = 0; drive < DRIVES; drive++) {
            for (int tick : SOME_TICKS) {
                for (int reading = 0; reading < 8; reading++) {
                    answers.add((long) x.reading(drive, tick, reading));
                }
            }
        }
        for (int test = 0; test < 16; test++) {
            answers.add((long) x.bound(test));
            answers.add((long) x.parts(test));
        }
        answers.add((long) x.fewest());
    }

    private static void askRuns(CleanStand x, List<Long> answers) {
        for (int version = 0; version < VERSIONS; version++) {
            for (int drive = 0; drive < DRIVES; drive++) {
                for (int what = 2; what <= 5; what++) {
                    answers.add((long) x.all(version, drive, what));
                }
                answers.add((long) x.run(version, drive, 0, 1));
                answers.add((long) x.spy(version, drive, 1));
            }
            answers.add((long) x.cold(version, 0, 30, 0));
            answers.add((long) x.breaks(version, 0));
            answers.add((long) x.breaks(version, 1));
            answers.add((long) x.fix(version, 0, 1));
        }
        answers.add((long) x.lets());
        answers.add((long) x.parting(0));
        answers.add((long) x.looks(5000, 0));
        for (int street = 0; street < STREETS; street++) {
            answers.add(x.comes(street));
        }
        answers.add((long) x.owed(0));
    }

    private static void askText(CleanStand x, List<Long> answers) {
        answers.add((long) x.fault(0));
        answers.add((long) x.fault(1));
        answers.add((long) x.program(2));
        answers.add((long) x.law(1));
        answers.add((long) x.all(2, 1, 2));
        answers.add((long) x.breaks(3, 1));
        answers.add((long) x.erase());
    }

    private static void askAsked(CleanStand x, List<Long> answers) {
        int[] months = {0, 7, 9, 199, 200};
        for (int land = 0; land < LANDS; land++) {
            for (int version = 0; version < VERSIONS; version++) {
                for (int month : months) {
                    answers.add((long) x.known(land, version, month));
                }
            }
        }
        for (int asked = 0; asked < 20; asked++) {
            answers.add((long) x.tell(asked));
        }
        for (int land = 0; land < LANDS; land++) {
            for (int version = 0; version < VERSIONS; version++) {
                answers.add((long) x.known(land, version, 200));
            }
        }
        answers.add((long) x.ask(0, 0, 0));
        answers.add((long) x.months(1));
    }

    private static void askKept(CleanStand x, List<Long> answers) {
        for (int map = 0; map < 4; map++) {
            for (int klass = 0; klass < 4; klass++) {
                answers.add((long) x.dose(map, klass, 0));
            }
        }
        for (int what = 0; what < 4; what++) {
            answers.add((long) x.set(what, 20));
        }
        for (int version = 0; version < VERSIONS; version++) {
            answers.add((long) x.cars(version, 0, 1));
            answers.add((long) x.cars(version, 1, 1));
        }
        for (int drive = 0; drive < DRIVES; drive++) {
            answers.add((long) x.cost(drive, 1));
            answers.add((long) x.tick(drive, 0, 0, 0, 0, 0));
        }
        for (int street = 0; street < STREETS; street++) {
            answers.add(x.comes(street));
        }
        answers.add((long) x.measure(0, 0, 0));
    }

    /** All that an object tells after a call; each probe has an object of its own, as it may change it. */
    private static List<Long> told(Supplier<CleanStand> scene, Call call, int... numbers) {
        List<Long> answers = new ArrayList<>();
        for (Probe probe : PROBES) {
            CleanStand x = scene.get();
            if (call != null) {
                call.on(x, numbers);
            }
            probe.ask(x, answers);
        }
        return answers;
    }

    /** Were a change not seen, "nothing has changed" would say nothing. */
    private static void probesSeeEachChange() {
        seen("drive", (x, a) -> x.drive(5, 1, 2));
        seen("drive", (x, a) -> x.drive(5, 0, 3));
        seen("drive", (x, a) -> x.drive(0, 0, 0));
        seen("tick", (x, a) -> x.tick(4, 0, 0, 0, 0, 0));
        seen("dose", (x, a) -> x.dose(3, 0, 1));
        for (int what = 0; what < 4; what++) {
            int which = what;
            seen("set " + what, (x, a) -> x.set(which, 50));
        }
        seen("write", (x, a) -> x.write(32, 1));
        seen("erase", (x, a) -> x.erase());
        seen("program", (x, a) -> x.program(2));
        seen("law", (x, a) -> lawed(x.erase() < 0 ? null : x, 1, "gram 0").count(1));
        seen("measure", (x, a) -> x.measure(0, 0, 46));
        seen("cars", (x, a) -> x.cars(3, 0, 1));
        seen("fee", (x, a) -> x.cars(3, 1, 1));
        seen("cost", (x, a) -> x.cost(4, 2));
        seen("months", (x, a) -> x.months(1));
        seen("ask", (x, a) -> x.ask(0, 0, 0));
        seen("tell", (x, a) -> x.tell(0));
    }

    private static void seen(String name, Call change) {
        Supplier<CleanStand> scene = () -> some("map 1;map 2");
        holds("no probe sees what " + name + " changes", !told(scene, change).equals(told(scene, null)));
    }

    // ---- how a call is tried

    private static void taken(String name, Supplier<CleanStand> scene, Call call, int[] numbers) {
        long answer = call.on(scene.get(), numbers);
        boolean refused = answer == LEAST || answer <= UNKNOWN && answer >= FULL;
        holds(name + Arrays.toString(numbers) + " is to be taken, and answered " + answer, !refused);
    }

    private static void refused(String name, Supplier<CleanStand> scene, Call call, int[] numbers, int refusal) {
        due(name + Arrays.toString(numbers), call.on(scene.get(), numbers), refusal);
        holds(name + Arrays.toString(numbers) + " was refused and changed something",
            told(scene, call, numbers).equals(told(scene, null)));
    }

    private static int[] with(int[] numbers, int at, int number) {
        int[] changed = numbers.clone();
        changed[at] = number;
        return changed;
    }

    /** The numbers just beyond a bound, and the farthest. */
    private static int[] beyond(Bound bound) {
        return new int[] {bound.least - 1, bound.most + 1, LEAST, MOST};
    }

    /** Numbers that fit, each of them at both its bounds and beyond these. */
    private static void tried(String name, Supplier<CleanStand> scene, Call call, int[] fits, Bound... bounds) {
        taken(name, scene, call, fits);
        for (int at = 0; at < bounds.length; at++) {
            taken(name, scene, call, with(fits, at, bounds[at].least));
            taken(name, scene, call, with(fits, at, bounds[at].most));
        }
        eachRefused(name, scene, call, fits, bounds);
    }

    private static void eachRefused(String name, Supplier<CleanStand> scene, Call call, int[] fits, Bound... bounds) {
        for (int at = 0; at < bounds.length; at++) {
            for (int number : beyond(bounds[at])) {
                refused(name, scene, call, with(fits, at, number), bounds[at].refusal);
            }
            for (int other = at + 1; other < bounds.length; other++) {
                bothRefused(name, scene, call, fits, at, other, bounds);
            }
        }
    }

    /** UNKNOWN comes ahead of OUTSIDE, wherever the numbers stand. */
    private static void bothRefused(String name, Supplier<CleanStand> scene, Call call, int[] fits, int at, int other,
            Bound... bounds) {
        int first = bounds[at].refusal == OUTSIDE ? bounds[other].refusal : bounds[at].refusal;
        int[][] pairs = {{bounds[at].least - 1, bounds[other].most + 1}, {bounds[at].most + 1, bounds[other].least - 1},
            {LEAST, MOST}, {MOST, MOST}};
        for (int[] pair : pairs) {
            refused(name, scene, call, with(with(fits, at, pair[0]), other, pair[1]), first);
        }
    }

    private static int[] numbers(int... numbers) {
        return numbers;
    }

    // ---- the calls

    private static void drivesAndMaps() {
        Supplier<CleanStand> some = () -> some("map 1 when");
        tried("drive", some, (x, a) -> x.drive(a[0], a[1], a[2]), numbers(1, 0, 1), A_DRIVE, inside(0, 1), A_STREET);
        tried("tick", some, (x, a) -> x.tick(a[0], a[1], a[2], a[3], a[4], a[5]), numbers(1, 80, 50, 3, 15, 30),
            A_DRIVE, inside(0, 159), inside(0, 99), inside(-9, 9), inside(0, 30), inside(0, 60));
        tried("dose", some, (x, a) -> x.dose(a[0], a[1], a[2]), numbers(1, 2, 30), A_MAP, inside(0, 3), inside(0, 60));
        tried("set", some, (x, a) -> x.set(a[0], a[1]), numbers(1, 50), inside(0, 3));
        Bound[] kept = {inside(0, 9999), inside(20, 999), inside(0, 99999), inside(0, 100)};
        for (int what = 0; what < kept.length; what++) {
            int which = what;
            tried("set " + what, some, (x, a) -> x.set(which, a[0]), numbers(50), kept[what]);
            refused("set", some, (x, a) -> x.set(a[0], a[1]), numbers(-1, kept[what].most), OUTSIDE);
            refused("set", some, (x, a) -> x.set(a[0], a[1]), numbers(4, kept[what].least), OUTSIDE);
        }
        tried("reading", some, (x, a) -> x.reading(a[0], a[1], a[2]), numbers(0, 0, 3), A_DRIVE, known(0, 2), A_READING);
        refused("reading", some, (x, a) -> x.reading(a[0], a[1], a[2]), numbers(2, 0, 0), UNKNOWN);
    }

    private static void texts() {
        Call write = (x, a) -> x.write(0x20_20_20_20_20_20_20_20L, a[0]);
        tried("write", () -> some(""), write, numbers(3), inside(1, 8));
        tried("fault", () -> some("map 1"), (x, a) -> x.fault(a[0]), numbers(0), inside(0, 1));
        tried("program", () -> some("map 1"), (x, a) -> x.program(a[0]), numbers(1), A_VERSION);
        tried("law", () -> some("gram 1"), (x, a) -> x.law(a[0]), numbers(1), A_LAND);
    }

    private static void runs() {
        Supplier<CleanStand> some = () -> some("map 1 when");
        tried("run", some, (x, a) -> x.run(a[0], a[1], a[2], a[3]), numbers(1, 0, 0, 2), A_VERSION, A_DRIVE, known(0, 2),
            inside(0, 4));
        refused("run", some, (x, a) -> x.run(a[0], a[1], a[2], a[3]), numbers(0, 2, 0, 0), UNKNOWN);
        tried("all", some, (x, a) -> x.all(a[0], a[1], a[2]), numbers(1, 1, 3), A_VERSION, A_DRIVE, inside(2, 5));
        tried("parts", some, (x, a) -> x.parts(a[0]), numbers(4), inside(0, 15));
        tried("bound", some, (x, a) -> x.bound(a[0]), numbers(4), inside(0, 15));
        tried("spy", some, (x, a) -> x.spy(a[0], a[1], a[2]), numbers(1, 1, 1), A_VERSION, A_DRIVE, A_MAP);
    }

    private static void measuresAndLaws() {
        Supplier<CleanStand> some = () -> some("map 1 when");
        tried("measure", some, (x, a) -> x.measure(a[0], a[1], a[2]), numbers(0, 0, 9), A_DRIVE, known(0, 2),
            inside(0, 9999));
        refused("measure", some, (x, a) -> x.measure(a[0], a[1], a[2]), numbers(2, 0, 0), UNKNOWN);
        tried("parting", some, (x, a) -> x.parting(a[0]), numbers(0), inside(0, 1));
        tried("breaks", some, (x, a) -> x.breaks(a[0], a[1]), numbers(1, 1), A_VERSION, A_LAND);
        tried("cold", some, (x, a) -> x.cold(a[0], a[1], a[2], a[3]), numbers(1, 1, 30, 1), A_VERSION, A_MAP, inside(0, 61),
            inside(0, 1));
    }

    private static void tanksFixesLooks() {
        Supplier<CleanStand> some = () -> some("map 1 when");
        tried("lasts", some, (x, a) -> x.lasts(a[0], a[1]), numbers(1, 1), A_VERSION, A_DRIVE);
        // What it answers here is above 0, so that it is not by chance the number of a refusal.
        tried("saves", some, (x, a) -> x.saves(a[0], a[1]), numbers(2, 1), bound(0, 3, LEAST), bound(0, 3, LEAST));
        tried("cars", some, (x, a) -> x.cars(a[0], a[1], a[2]), numbers(1, 0, 9), A_VERSION, inside(0, 1), inside(0, 9999));
        tried("fee", some, (x, a) -> x.cars(a[0], a[1], a[2]), numbers(1, 1, 9), A_VERSION, inside(0, 1), inside(0, 999));
        tried("fix", some, (x, a) -> x.fix(a[0], a[1], a[2]), numbers(1, 1, 1), A_VERSION, A_LAND, inside(0, 1));
        tried("owed", some, (x, a) -> x.owed(a[0]), numbers(1), A_LAND);
        tried("cost", some, (x, a) -> x.cost(a[0], a[1]), numbers(1, 7), A_DRIVE, inside(0, 99));
        tried("looks", some, (x, a) -> x.looks(a[0], a[1]), numbers(500, 1), inside(0, 99999), inside(0, 2));
    }

    private static void askingAndStreets() {
        Supplier<CleanStand> some = () -> some("map 1 when");
        tried("months", some, (x, a) -> x.months(a[0]), numbers(5), inside(1, 60));
        tried("ask", some, (x, a) -> x.ask(a[0], a[1], a[2]), numbers(1, 1, 3), A_LAND, A_VERSION, A_READING);
        tried("tell", some, (x, a) -> x.tell(a[0]), numbers(0), known(0, 2));
        tried("known", some, (x, a) -> x.known(a[0], a[1], a[2]), numbers(1, 1, 3), A_LAND, A_VERSION, inside(0, 200));
        tried("comes", some, (x, a) -> x.comes(a[0]), numbers(1), A_STREET);
        tried("count", some, (x, a) -> x.count(a[0]), numbers(1), inside(0, 5));
    }

    /** FULL is the last refusal: beyond its bounds a number is refused as if there were room. */
    private static void fullOnes() {
        Supplier<CleanStand> full = RefusalTests::full;
        Call tick = (x, a) -> x.tick(a[0], a[1], a[2], a[3], a[4], a[5]);
        refused("tick", full, tick, numbers(0, 0, 0, 0, 0, 0), FULL);
        refused("tick", full, tick, numbers(5, 159, 99, -9, 30, 60), FULL);
        eachRefused("tick", full, tick, numbers(0, 80, 50, 3, 15, 30), A_DRIVE, inside(0, 159), inside(0, 99),
            inside(-9, 9), inside(0, 30), inside(0, 60));
        taken("tick", full, tick, numbers(1, 0, 0, 0, 0, 0));
        Call write = (x, a) -> x.write(32, a[0]);
        refused("write", full, write, numbers(1), FULL);
        refused("write", full, write, numbers(8), FULL);
        eachRefused("write", full, write, numbers(1), inside(1, 8));
        Call measure = (x, a) -> x.measure(a[0], a[1], a[2]);
        refused("measure", full, measure, numbers(0, 39, 0), FULL);
        refused("measure", full, measure, numbers(5, 0, 9999), FULL);
        eachRefused("measure", full, measure, numbers(0, 39, 0), A_DRIVE, known(0, 39), inside(0, 9999));
        Call ask = (x, a) -> x.ask(a[0], a[1], a[2]);
        refused("ask", full, ask, numbers(0, 0, 0), FULL);
        refused("ask", full, ask, numbers(1, 3, 7), FULL);
        eachRefused("ask", full, ask, numbers(0, 0, 0), A_LAND, A_VERSION, A_READING);
        Call months = (x, a) -> x.months(a[0]);
        refused("months", full, months, numbers(1), OUTSIDE);
        refused("months", full, months, numbers(60), OUTSIDE);
        eachRefused("months", full, months, numbers(1), inside(1, 60));
        tried("tell", full, (x, a) -> x.tell(a[0]), numbers(0), known(0, 19));
        // Drive 1 has no ticks there, and 0 and 5 have them all.
        Call reading = (x, a) -> x.reading(a[0], a[1], a[2]);
        eachRefused("reading", full, reading, numbers(0, 0, 0), A_DRIVE, known(0, 39), A_READING);
        taken("reading", full, reading, numbers(5, 39, 7));
    }

    private static void notNow() {
        Supplier<CleanStand> some = () -> some("map 4");
        Call program = (x, a) -> x.program(a[0]);
        refused("program", some, program, numbers(0), NOT);
        refused("program", some, program, numbers(3), NOT);
        refused("program", () -> some(""), program, numbers(0), NOT);
        refused("program", () -> some("gram 5"), program, numbers(0), NOT);
        eachRefused("program", some, program, numbers(0), A_VERSION);
        Call law = (x, a) -> x.law(a[0]);
        refused("law", some, law, numbers(0), NOT);
        refused("law", some, law, numbers(1), NOT);
        refused("law", () -> some(""), law, numbers(0), NOT);
        refused("law", () -> some("map 1"), law, numbers(0), NOT);
        eachRefused("law", some, law, numbers(0), A_LAND);
        Call lasts = (x, a) -> x.lasts(a[0], a[1]);
        refused("lasts", some, lasts, numbers(0, 2), NOT);
        refused("lasts", some, lasts, numbers(3, 4), NOT);
        eachRefused("lasts", some, lasts, numbers(0, 2), A_VERSION, A_DRIVE);
        Call tell = (x, a) -> x.tell(a[0]);
        refused("tell", some, tell, numbers(1), NOT);
        refused("tell", RefusalTests::full, tell, numbers(3), NOT);
    }

    private static void askingChangesNothing() {
        String[] texts = {"map 1 when load above 2 and soot below 3;map 2", "gram 5;ban soot"};
        for (String text : texts) {
            Supplier<CleanStand> scene = () -> some(text);
            List<Long> before = told(scene, null);
            for (Probe probe : new Probe[] {RefusalTests::askDrives, RefusalTests::askRuns}) {
                holds("asking changed something", told(scene, (x, a) -> asked(x, probe)).equals(before));
            }
            holds("fault changed something", told(scene, (x, a) -> x.fault(0) + x.fault(1)).equals(before));
            holds("known changed something", told(scene, (x, a) -> x.known(0, 0, 200)).equals(before));
            holds("lasts, saves changed something", told(scene, (x, a) -> x.lasts(0, 1) + x.saves(0, 1)).equals(before));
        }
    }

    private static long asked(CleanStand x, Probe probe) {
        probe.ask(x, new ArrayList<>());
        return 0;
    }
}
