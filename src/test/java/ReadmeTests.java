import java.io.IOException;
import java.nio.charset.StandardCharsets;
import java.nio.file.Files;
import java.nio.file.Path;
import java.util.ArrayList;
import java.util.Comparator;
import java.util.List;
import java.util.Set;
import java.util.TreeSet;
import java.util.regex.Matcher;
import java.util.regex.Pattern;
import java.util.stream.Collectors;
import java.util.stream.Stream;

/**
 * What README.md says holds when it is done as it is written there: its program is put where it says, and its commands are
 * typed, in a copy of the project, so that nothing is left in the project itself.
 */
public final class ReadmeTests extends Checks {
    private static final String ALL_TESTS = ".ci/run\n";

    /** A part of the page between two lines of ```, and the word behind the first of them. */
    private record Block(String language, String text) { }

    public static void main(String[] args) throws Exception {
        Path shared = Path.of(args[1]).toRealPath().getParent();
        Path readme = Path.of(args[2]).toRealPath();
        String page = Files.readString(readme);
        callsAreThoseOfTheFace(page, Files.readString(Path.of(args[1])));
        refusalsAreTheConstants(page);
        testsAreAllNamed(page, readme.getParent());
        Path place = Files.createTempDirectory("readme");
        try {
            List<Block> blocks = blocksOf(page);
            Path copy = copyOf(readme.getParent(), shared, place);
            programsAreThere(blocks, copy);
            commandsHold(blocks, copy, readme.getParent());
        } finally {
            remove(place);
        }
        end("ReadmeTests");
    }

    // ---- what the page names

    private static void callsAreThoseOfTheFace(String page, String document) {
        Set<String> face = new TreeSet<>();
        Matcher calls = Pattern.compile("(?m)^    public (?:int |long )?(\\w+)\\(([^)]*)\\);").matcher(document);
        while (calls.find()) {
            face.add(calls.group(1) + "(" + calls.group(2).replaceAll("(int|long) ", "") + ")");
        }
        Set<String> table = new TreeSet<>();
        Matcher rows = Pattern.compile("(?m)^\\| `([^`]+)` \\| [^|]+ \\|$").matcher(page);
        while (rows.find()) {
            table.add(rows.group(1));
        }
        due("the calls of the document", face.size(), 35);
        holds("README.md has the calls " + table + ", the document " + face, table.equals(face));
    }

    private static void refusalsAreTheConstants(String page) throws Exception {
        Matcher refusals = Pattern.compile("`([A-Z]+)` \\((-\\d+)\\)").matcher(page);
        Set<String> named = new TreeSet<>();
        while (refusals.find()) {
            named.add(refusals.group(1));
            due(refusals.group(1), CleanStand.class.getField(refusals.group(1)).getInt(null),
                Long.parseLong(refusals.group(2)));
        }
        holds("README.md has the refusals " + named, named.equals(Set.of("UNKNOWN", "OUTSIDE", "NOT", "FULL")));
    }

    private static void testsAreAllNamed(String page, Path project) throws IOException {
        try (Stream<Path> files = Files.list(project.resolve("src/test/java"))) {
            for (Path file : files.collect(Collectors.toList())) {
                holds("README.md does not name " + file.getFileName(), page.contains("`" + file.getFileName() + "`"));
            }
        }
    }

    // ---- what the page says to do

    private static List<Block> blocksOf(String page) {
        List<Block> blocks = new ArrayList<>();
        Matcher matcher = Pattern.compile("(?ms)^```(\\w+)\n(.*?)^```$").matcher(page);
        while (matcher.find()) {
            blocks.add(new Block(matcher.group(1), matcher.group(2)));
        }
        return blocks;
    }

    private static void programsAreThere(List<Block> blocks, Path copy) throws IOException {
        int programs = 0;
        for (Block block : blocks) {
            Matcher head = Pattern.compile("public final class (\\w+)").matcher(block.text);
            if (block.language.equals("java") && head.find()) {
                Files.writeString(copy.resolve(head.group(1) + ".java"), block.text);
                programs++;
            }
        }
        due("programs in README.md", programs, 1);
    }

    private static void commandsHold(List<Block> blocks, Path copy, Path project) throws Exception {
        int typed = 0;
        int printed = 0;
        for (int at = 0; at < blocks.size(); at++) {
            Block block = blocks.get(at);
            if (block.text.equals(ALL_TESTS)) {
                // Typed here, it would run this test again without an end.
                holds(ALL_TESTS + " cannot be run", Files.isExecutable(project.resolve(".ci/run")));
            } else if (block.language.equals("sh")) {
                String got = typedIn(copy, block.text);
                typed++;
                if (at + 1 < blocks.size() && blocks.get(at + 1).language.equals("text")) {
                    String want = blocks.get(at + 1).text;
                    holds(block.text + "printed\n" + got + "README.md has\n" + want, got.equals(want));
                    printed++;
                }
            }
        }
        due("blocks of commands in README.md", typed, 3);
        due("of these with what they print", printed, 1);
    }

    private static String typedIn(Path folder, String commands) throws Exception {
        Process shell = new ProcessBuilder("sh", "-e", "-c", commands).directory(folder.toFile())
            .redirectErrorStream(true).start();
        String got = new String(shell.getInputStream().readAllBytes(), StandardCharsets.UTF_8);
        int code = shell.waitFor();
        holds(commands + "ended with " + code + ":\n" + got, code == 0);
        return got;
    }

    // ---- the copy

    /** The project and, beside it, the folder shared. */
    private static Path copyOf(Path project, Path shared, Path place) throws IOException {
        copyAll(shared, place.resolve("shared"));
        Path copy = Files.createDirectory(place.resolve("project"));
        Files.copy(project.resolve("README.md"), copy.resolve("README.md"));
        copyAll(project.resolve("src"), copy.resolve("src"));
        return copy;
    }

    private static void copyAll(Path from, Path to) throws IOException {
        try (Stream<Path> files = Files.walk(from)) {
            for (Path file : files.collect(Collectors.toList())) {
                Files.copy(file, to.resolve(from.relativize(file).toString()));
            }
        }
    }

    private static void remove(Path place) throws IOException {
        try (Stream<Path> files = Files.walk(place)) {
            for (Path file : files.sorted(Comparator.reverseOrder()).collect(Collectors.toList())) {
                Files.delete(file);
            }
        }
    }
}
