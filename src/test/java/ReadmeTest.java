import java.io.IOException;
import java.net.URL;
import java.net.URLClassLoader;
import java.nio.file.Files;
import java.nio.file.Path;
import java.util.ArrayList;
import java.util.List;
import java.util.Set;
import java.util.TreeSet;
import java.util.regex.Matcher;
import java.util.regex.Pattern;
import java.util.stream.Collectors;
import java.util.stream.Stream;
import javax.tools.JavaCompiler;
import javax.tools.ToolProvider;

/** What README.md says is so when run: its lines are compiled and their answers compared with those behind "//". */
public final class ReadmeTest {
    private static final Pattern BLOCK = Pattern.compile("(?m)^```(\\w+)\\n(.*?)^```$", Pattern.DOTALL);
    private static final Pattern ANSWERED = Pattern.compile("(\\S.*);\\s+// (-?\\d+)(?:: \\S.*)?");
    private static final Pattern MADE = Pattern.compile("BracketHouse \\w+ = new BracketHouse\\(\\);");
    // Test classes and their helpers, as README.md lists them.
    private static final Pattern LISTED = Pattern.compile("`([A-Z]\\w*)`");
    private static final Set<String> NO_FILES = Set.of("NONE", "NOTHING");

    private final StringBuilder members = new StringBuilder();
    private final StringBuilder lines = new StringBuilder();
    private final List<String> calls = new ArrayList<>();
    private final List<Long> due = new ArrayList<>();
    private final String readme;

    private ReadmeTest(String readme) {
        this.readme = readme;
    }

    public static void main(String[] args) throws IOException, ReflectiveOperationException {
        Path root = Path.of(args.length > 0 ? args[0] : ".");
        ReadmeTest test = new ReadmeTest(Files.readString(root.resolve("README.md")));
        test.takeBlocks();
        test.tells();
        long[] got = test.answers(Path.of("build/readme"));
        for (int i = 0; i < got.length; i++) Due.is("README.md: " + test.calls.get(i), got[i], test.due.get(i));
        test.filesAreListed(root.resolve("src/test/java"));
        test.commandsAreThere(root);
        Due.close();
    }

    private void takeBlocks() {
        Matcher blocks = BLOCK.matcher(readme);
        while (blocks.find()) {
            if (!blocks.group(1).equals("java")) continue;
            if (blocks.group(2).startsWith("static ")) members.append(blocks.group(2));
            else for (String line : blocks.group(2).split("\n")) takeLine(line);
        }
    }

    private void takeLine(String line) {
        Matcher answered = ANSWERED.matcher(line);
        if (answered.matches()) {
            lines.append("got[").append(calls.size()).append("] = ").append(answered.group(1)).append(";\n");
            calls.add(answered.group(1));
            due.add(Long.parseLong(answered.group(2)));
        } else {
            Due.is("README.md has an answer or a new object in the line " + line, MADE.matcher(line).matches() ? 1 : 0, 1);
            lines.append(line).append('\n');
        }
    }

    /** That README.md shows what it has to: a row, a law, orders, a refused call and how to ask, images. */
    private void tells() {
        for (String call : List.of("feed", "end", "row", "blots", "law", "force", "orders", "fault", "stopped", "status", "count", "undo", "image", "back")) {
            boolean shown = calls.stream().anyMatch(c -> c.startsWith("house." + call + "("));
            Due.is("README.md shows " + call + "()", shown ? 1 : 0, 1);
        }
        for (int by : new int[] {-1, -2, -3, -6}) Due.is("README.md shows a call refused by " + by, due.contains((long) by) ? 1 : 0, 1);
        for (int by : new int[] {-1, -2, -3, -5, -6}) Due.is("README.md tells of " + by, readme.contains("\n| " + by + " |") ? 1 : 0, 1);
    }

    private long[] answers(Path into) throws IOException, ReflectiveOperationException {
        Files.createDirectories(into);
        Path source = into.resolve("ReadmeLines.java");
        Files.writeString(source, "public final class ReadmeLines {\n" + members + "public static long[] answers() {\nlong[] got = new long["
            + calls.size() + "];\n" + lines + "return got;\n}\n}\n");
        JavaCompiler compiler = ToolProvider.getSystemJavaCompiler();
        int failed = compiler.run(null, null, null, "-cp", System.getProperty("java.class.path"), "-d", into.toString(), source.toString());
        Due.is("README.md's lines compile", failed, 0);
        if (failed != 0) return new long[0];
        try (URLClassLoader loader = new URLClassLoader(new URL[] {into.toUri().toURL()})) {
            return (long[]) loader.loadClass("ReadmeLines").getMethod("answers").invoke(null);
        }
    }

    private void filesAreListed(Path tests) throws IOException {
        Set<String> files;
        try (Stream<Path> all = Files.list(tests)) {
            files = all.map(p -> p.getFileName().toString().replace(".java", "")).collect(Collectors.toCollection(TreeSet::new));
        }
        Set<String> listed = new TreeSet<>();
        Matcher names = LISTED.matcher(readme);
        while (names.find()) listed.add(names.group(1));
        for (String file : files) Due.is("README.md lists " + file, listed.contains(file) ? 1 : 0, 1);
        for (String name : listed) Due.is("there is " + name, files.contains(name) || NO_FILES.contains(name) ? 1 : 0, 1);
    }

    /** The commands: scripts that can be run, classes that are tests. */
    private void commandsAreThere(Path root) {
        Matcher blocks = BLOCK.matcher(readme);
        while (blocks.find()) {
            if (!blocks.group(1).equals("sh")) continue;
            for (String line : blocks.group(2).split("\n")) commandIsThere(root, line);
        }
        Matcher inText = Pattern.compile("`(java [^`]*)`").matcher(readme);
        while (inText.find()) if (inText.group(1).contains(" -cp ")) commandIsThere(root, inText.group(1));
    }

    private void commandIsThere(Path root, String line) {
        Matcher java = Pattern.compile("java -cp build/main:build/test (\\w+)( \\d+)*").matcher(line);
        boolean there = java.matches()
            ? Files.exists(root.resolve("src/test/java/" + java.group(1) + ".java"))
            : Files.isExecutable(root.resolve(line));
        Due.is("the command " + line + " can be run", there ? 1 : 0, 1);
    }
}
