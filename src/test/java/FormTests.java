import java.lang.management.ManagementFactory;
import java.lang.reflect.Field;
import java.lang.reflect.Member;
import java.lang.reflect.Method;
import java.lang.reflect.Modifier;
import java.nio.file.Files;
import java.nio.file.Path;
import java.util.ArrayList;
import java.util.Arrays;
import java.util.List;
import java.util.Set;
import java.util.TreeSet;
import java.util.regex.Matcher;
import java.util.regex.Pattern;
import java.util.stream.Collectors;

/** The face as the document has it, and those rules of LANGUAGE.md that can be seen from outside. */
public final class FormTests {
    private static final String FACE = """
        int drive(int int int); int tick(int int int int int int); int dose(int int int); int set(int int);
        int reading(int int int); int write(long int); int erase(); int fault(int); int program(int); int law(int);
        int run(int int int int); int all(int int int); int parts(int); int bound(int); int fewest();
        int spy(int int int); int measure(int int int); int lets(); int parting(int); int breaks(int int);
        int cold(int int int int); int lasts(int int); int saves(int int); int cars(int int int); int fix(int int int);
        int owed(int); int cost(int int); int looks(int int); int months(int); int ask(int int int); int tell(int);
        int known(int int int); long comes(int); int count(int);
        """;
    private static int passed = 0;
    private static int failed = 0;

    private static void holds(String rule, boolean fits) {
        if (fits) {
            passed++;
        } else {
            failed++;
            System.out.println("does not hold: " + rule);
        }
    }

    public static void main(String[] args) throws Exception {
        face();
        constants();
        members();
        source(Files.readString(Path.of(args[0])));
        callsMakeNothing();
        System.out.println("FormTests: " + passed + " passed, " + failed + " failed");
        if (failed != 0) {
            System.exit(1);
        }
    }

    private static void face() {
        Set<String> want = Arrays.stream(FACE.split(";")).map(String::strip).filter(s -> !s.isEmpty())
            .collect(Collectors.toCollection(TreeSet::new));
        Set<String> got = new TreeSet<>();
        for (Method method : CleanStand.class.getDeclaredMethods()) {
            if (Modifier.isPublic(method.getModifiers())) {
                String types = Arrays.stream(method.getParameterTypes()).map(Class::getName)
                    .collect(Collectors.joining(" "));
                got.add(method.getReturnType() + " " + method.getName() + "(" + types + ")");
            }
        }
        holds("the face is " + want + ", not " + got, got.equals(want));
        int modifiers = CleanStand.class.getModifiers();
        holds("public and final", Modifier.isPublic(modifiers) && Modifier.isFinal(modifiers));
        holds("one public constructor", CleanStand.class.getDeclaredConstructors().length == 1
            && CleanStand.class.getConstructors().length == 1);
    }

    private static void constants() throws Exception {
        String[] names = {"NONE", "UNKNOWN", "OUTSIDE", "NOT", "FULL"};
        for (int i = 0; i < names.length; i++) {
            holds(names[i], CleanStand.class.getField(names[i]).getInt(null) == -1 - i);
        }
        holds("no other public field", CleanStand.class.getFields().length == names.length);
    }

    private static void members() {
        List<Member> members = new ArrayList<>(List.of(CleanStand.class.getDeclaredMethods()));
        members.addAll(List.of(CleanStand.class.getDeclaredFields()));
        Set<String> open = new TreeSet<>();
        for (Member member : members) {
            int modifiers = member.getModifiers();
            holds(member.getName() + " is public or private",
                Modifier.isPublic(modifiers) || Modifier.isPrivate(modifiers));
            if (member instanceof Method && Modifier.isPublic(modifiers)) {
                open.add(member.getName());
            }
        }
        List<Class<?>> classes = new ArrayList<>(List.of(CleanStand.class.getDeclaredClasses()));
        holds("at most eleven classes inside", classes.size() <= 11);
        classes.add(CleanStand.class);
        for (Class<?> own : classes) {
            holds(own + " is static", own == CleanStand.class || Modifier.isStatic(own.getModifiers()));
            int fields = 0;
            for (Field field : own.getDeclaredFields()) {
                boolean isStatic = Modifier.isStatic(field.getModifiers());
                holds(field + " is final", !isStatic || Modifier.isFinal(field.getModifiers()));
                fields += isStatic ? 0 : 1;
            }
            holds(own + " has at most twenty fields", fields <= 20);
            for (Method method : own.getDeclaredMethods()) {
                holds(method + " has a name of its own",
                    Modifier.isPublic(method.getModifiers()) || !open.contains(method.getName()));
                holds(method + " has at most seven parameters", method.getParameterCount() <= 7);
            }
        }
    }

    private static void source(String source) {
        holds("signs 1 to 127", source.chars().allMatch(sign -> sign > 0 && sign < 128));
        String code = source.replaceAll("(?s)/\\*.*?\\*/", "").replaceAll("//[^\n]*", "").replaceAll("\"[^\"\n]*\"", "\"\"");
        String[] barred = {"throw", "throws", "try", "catch", "finally", "synchronized", "assert", "package", "System.out",
            "Exact", "->", "::", "double", "float", "Object", "Random", "currentTimeMillis", "nanoTime", "equals", "hashCode"};
        for (String word : barred) {
            boolean isWord = Character.isLetter(word.charAt(0)) && !word.equals("Exact");
            String pattern = isWord ? "\\b" + Pattern.quote(word) + "\\b" : Pattern.quote(word);
            holds("no " + word, !Pattern.compile(pattern).matcher(code).find());
        }
        Matcher imports = Pattern.compile("import ([^;]+);").matcher(code);
        while (imports.find()) {
            holds("import " + imports.group(1), imports.group(1).equals("java.util.Arrays"));
        }
        methodsAreShort(code.split("\n"));
    }

    /** A method begins with a line that ends in ") {" behind a name's line at one or two levels, and ends at that level. */
    private static void methodsAreShort(String[] lines) {
        for (int i = 0; i < lines.length; i++) {
            Matcher head = Pattern.compile("^( {4}| {8})(?!if|for|while|switch|return)[a-z][^=;]*\\)? \\{$").matcher(lines[i]);
            if (head.matches() && lines[i].contains("(")) {
                int end = i;
                while (end < lines.length && !lines[end].equals(head.group(1) + "}")) {
                    end++;
                }
                holds(lines[i].strip() + " has at most sixty lines", end - i < 60);
            }
        }
    }

    /** Objects are made in the constructor alone, so that a long run stays in its room. */
    private static void callsMakeNothing() {
        var threads = (com.sun.management.ThreadMXBean) ManagementFactory.getThreadMXBean();
        long id = Thread.currentThread().getId();
        CleanStand x = new CleanStand();
        callAll(x);
        threads.getThreadAllocatedBytes(id);
        long before = threads.getThreadAllocatedBytes(id);
        long idle = threads.getThreadAllocatedBytes(id) - before;
        before = threads.getThreadAllocatedBytes(id);
        callAll(x);
        long made = threads.getThreadAllocatedBytes(id) - before;
        holds("calls make no object, made " + made + " bytes, idle " + idle, made <= idle);
    }

    private static void callAll(CleanStand x) {
        for (int i = -1; i < 7; i++) {
            x.drive(i, i & 1, i & 3);
            x.tick(i, 20, 30, i, 4, 5);
            x.dose(i, 1, 5);
            x.set(i, 50);
            x.reading(i, 0, i);
            x.erase();
            // map 1
            x.write(0x31_20_70_61_6dL, 5);
            x.fault(i);
            x.law(i & 1);
            x.program(i & 3);
            // ban load
            x.write(0x64_61_6f_6c_20_6e_61_62L, 8);
            x.law(i & 1);
            x.run(0, i, 0, i);
            x.all(1, i, i);
            x.parts(i);
            x.bound(i);
            x.fewest();
            x.spy(2, i, 1);
            x.measure(i, 0, 40);
            x.lets();
            x.parting(i);
            x.breaks(3, i);
            x.cold(0, 1, 9, i);
            x.lasts(1, i);
            x.saves(2, i);
            x.cars(i, 0, 9);
            x.fix(0, 0, i);
            x.owed(i);
            x.cost(i, 3);
            x.looks(100, i);
            x.months(i);
            x.ask(0, 1, i);
            x.tell(i);
            x.known(0, 1, i);
            x.comes(i);
            x.count(i);
        }
    }
}
