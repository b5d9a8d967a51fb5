import java.io.ByteArrayOutputStream;
import java.io.File;
import java.io.IOException;
import java.io.PrintStream;
import java.net.URL;
import java.net.URLClassLoader;
import java.nio.file.DirectoryStream;
import java.nio.file.Files;
import java.nio.file.Path;
import java.util.ArrayList;
import java.util.Arrays;
import java.util.List;
import java.util.TreeSet;
import java.util.regex.Matcher;
import java.util.regex.Pattern;
import javax.tools.ToolProvider;

/** What README.md shows: its program prints what it says, its calls answer what it tells, its lists are whole. */
public final class ReadmeTest {
    private static final Check CHECK = new Check();
    private static final Path README = Path.of("README.md");
    private static final Path DOCUMENT = Path.of("../shared/DOC.md");
    private static final Path CLASS = Path.of("src/main/java/CellarCars.java");
    private static final Path TESTS = Path.of("src/test/java");
    private static final Pattern BLOCK = Pattern.compile("(?ms)^```(\\w+)\\n(.*?)^```$");
    private static final Pattern PROGRAM = Pattern.compile("public final class (\\w+)");
    private static final Pattern CALL =
        Pattern.compile("x\\.(\\w+\\([^()]*\\)); +// (-?\\d+)(?: ([A-Z]+))?(?:: \\S.*)?");

    public static void main(String[] args) throws Exception {
        String readme = Files.readString(README);
        int examples = 0;
        int programs = 0;
        for (Matcher block = BLOCK.matcher(readme); block.find();) {
            Matcher program = PROGRAM.matcher(block.group(2));
            if (!block.group(1).equals("java")) {
                continue;
            }
            if (program.find()) {
                programs++;
                prints(program.group(1), block.group(2), nextText(readme, block.end()));
            } else {
                examples++;
                example(block.group(2));
            }
        }
        for (String run : all("`(\\w+\\([^`]* = [^`]*)`", readme)) {
            CHECK.run(run);
        }
        CHECK.that("README.md shows a program", programs > 0);
        CHECK.that("README.md shows examples", examples > 0);
        findings(readme);
        calls(readme);
        tests(readme);
        classesInside(readme);
        CHECK.end();
    }

    /** Each line is a new object or a call with its answer: none is left untried. */
    private static void example(String text) {
        Run run = null;
        for (String line : text.split("\n")) {
            if (line.equals("CellarCars x = new CellarCars();")) {
                run = new Run(CHECK);
                continue;
            }
            Matcher call = CALL.matcher(line);
            boolean told = call.matches() && run != null;
            CHECK.that("README.md tells a call with its answer: " + line, told);
            if (told) {
                int due = Integer.parseInt(call.group(2));
                CHECK.due("README.md: " + line, run.make(call.group(1)), due);
                CHECK.that("README.md names the finding: " + line, Calls.isFinding(due)
                    ? call.group(3) != null && Calls.answer(call.group(3)) == due : call.group(3) == null);
            }
        }
    }

    private static String nextText(String readme, int from) {
        Matcher block = BLOCK.matcher(readme);
        return block.find(from) && block.group(1).equals("text") ? block.group(2) : "";
    }

    private static void prints(String name, String program, String due) throws Exception {
        Path out = Files.createTempDirectory("readme");
        try {
            Path source = Files.writeString(out.resolve(name + ".java"), program);
            int code = ToolProvider.getSystemJavaCompiler().run(null, null, null, "-Xlint:all", "-d", out.toString(),
                CLASS.toString(), source.toString());
            CHECK.due("javac of " + name, code, 0);
            String printed = code == 0 ? printed(name, out) : "";
            CHECK.that(name + " printed:\n" + printed, !due.isEmpty() && printed.equals(due));
        } finally {
            for (File file : out.toFile().listFiles()) {
                file.delete();
            }
            Files.delete(out);
        }
    }

    private static String printed(String name, Path out) throws Exception {
        ByteArrayOutputStream bytes = new ByteArrayOutputStream();
        PrintStream console = System.out;
        URL[] place = {out.toUri().toURL()};
        try (URLClassLoader loader = new URLClassLoader(place, ClassLoader.getPlatformClassLoader());
                PrintStream caught = new PrintStream(bytes, true)) {
            System.setOut(caught);
            loader.loadClass(name).getMethod("main", String[].class).invoke(null, (Object) new String[0]);
        } finally {
            System.setOut(console);
        }
        return bytes.toString().replace(System.lineSeparator(), "\n");
    }

    private static String section(String readme, String head) {
        int from = readme.indexOf("\n## " + head + "\n");
        CHECK.that("README.md has a section " + head, from >= 0);
        int to = readme.indexOf("\n## ", from + 1);
        return readme.substring(Math.max(0, from), to < 0 ? readme.length() : to);
    }

    private static TreeSet<String> all(String pattern, String text) {
        TreeSet<String> found = new TreeSet<>();
        for (Matcher each = Pattern.compile(pattern).matcher(text); each.find();) {
            found.add(each.groupCount() > 1 ? each.group(1) + " " + each.group(2) : each.group(1));
        }
        return found;
    }

    private static void same(String what, TreeSet<String> told, TreeSet<String> due) {
        CHECK.that(what + " of README.md: " + told + ", there are: " + due, !due.isEmpty() && told.equals(due));
    }

    private static void findings(String readme) throws IOException {
        TreeSet<String> due = all("(-1000\\d\\d) ([A-Z]+)", Files.readString(DOCUMENT));
        same("findings", all("(?m)^\\| (-\\d+) \\| ([A-Z]+) \\|", section(readme, "Findings")), due);
    }

    private static void calls(String readme) {
        List<String> rows = new ArrayList<>();
        for (String line : section(readme, "Calls").split("\n")) {
            if (line.startsWith("| ")) {
                rows.add(line);
            }
        }
        same("calls", all("`(\\w+)`", rows.toString()), new TreeSet<>(Arrays.asList(Calls.NAMES)));
    }

    private static void tests(String readme) throws IOException {
        TreeSet<String> due = new TreeSet<>();
        try (DirectoryStream<Path> files = Files.newDirectoryStream(TESTS, "*.java")) {
            for (Path file : files) {
                String name = file.getFileName().toString().replace(".java", "");
                boolean isTest = Files.readString(file).contains("public static void main(");
                CHECK.that(".ci/run runs " + name, isTest == name.endsWith("Test"));
                if (isTest) {
                    due.add(name);
                }
            }
        }
        same("tests", all("`(\\w+Test)`", section(readme, "Tests")), due);
    }

    private static void classesInside(String readme) {
        TreeSet<String> due = new TreeSet<>();
        due.add("CellarCars");
        for (Class<?> inside : CellarCars.class.getDeclaredClasses()) {
            due.add(inside.getSimpleName());
        }
        same("classes", all("`([A-Z]\\w+)`", section(readme, "How it is built")), due);
    }
}
