import java.io.IOException;
import java.lang.management.ManagementFactory;
import java.lang.reflect.Constructor;
import java.lang.reflect.Field;
import java.lang.reflect.Method;
import java.lang.reflect.Modifier;
import java.nio.file.Files;
import java.nio.file.Path;
import java.util.ArrayList;
import java.util.List;
import java.util.TreeSet;
import java.util.regex.Matcher;
import java.util.regex.Pattern;

/** What of LANGUAGE.md can be seen from outside: the face, the words, the sizes, the room that calls take. */
public final class LanguageTest {
    private static final Check CHECK = new Check();
    private static final Path SOURCE = Path.of("src/main/java/CellarCars.java");
    private static final Path DOCUMENT = Path.of("../shared/DOC.md");
    private static final String[] WORDS = {"\\bthrow\\b", "\\btry\\b", "\\bcatch\\b", "\\bsynchronized\\b",
        "\\bassert\\b", "->", "::", "Exact\\(", "\\bpackage\\b", "\\bprotected\\b", "\\bString\\b", "\\bdouble\\b",
        "\\bfloat\\b", "\\bhashCode\\b", "\\btoString\\b", "\\bException", "\\bThread\\b", "\\bstatic \\{",
        "\\bwhile \\(true\\)", "for \\(;;"};

    public static void main(String[] args) throws IOException {
        face();
        members(CellarCars.class);
        for (Class<?> inside : CellarCars.class.getDeclaredClasses()) {
            CHECK.that(inside + " is static", Modifier.isStatic(inside.getModifiers()));
            CHECK.that(inside + " is not public", !Modifier.isPublic(inside.getModifiers()));
            members(inside);
        }
        CHECK.that("at most 12 classes", CellarCars.class.getDeclaredClasses().length < 12);
        String code = Files.readString(SOURCE).replaceAll("(?s)/\\*.*?\\*/", "").replaceAll("//[^\n]*", "");
        words(code);
        methodsAreShort(code);
        callsMakeNothing();
        CHECK.end();
    }

    private static String told(Method m) {
        List<String> types = new ArrayList<>();
        for (Class<?> type : m.getParameterTypes()) {
            types.add(type.getName());
        }
        return m.getReturnType().getName() + " " + m.getName() + types;
    }

    private static void face() throws IOException {
        TreeSet<String> due = new TreeSet<>();
        Matcher line = Pattern.compile("public int (\\w+)\\(([^)]*)\\);").matcher(Files.readString(DOCUMENT));
        while (line.find()) {
            List<String> types = new ArrayList<>();
            for (String parameter : line.group(2).split(", ")) {
                if (!parameter.isEmpty()) {
                    types.add(parameter.split(" ")[0]);
                }
            }
            due.add("int " + line.group(1) + types);
        }
        TreeSet<String> are = new TreeSet<>();
        TreeSet<String> names = new TreeSet<>();
        for (Method m : CellarCars.class.getDeclaredMethods()) {
            if (Modifier.isPublic(m.getModifiers())) {
                are.add(told(m));
                names.add(m.getName());
            }
        }
        CHECK.due("methods of the document's face", due.size(), 47);
        CHECK.that("the face is the document's: " + are, are.equals(due));
        CHECK.that("public and final", Modifier.isPublic(CellarCars.class.getModifiers())
            && Modifier.isFinal(CellarCars.class.getModifiers()));
        for (Constructor<?> c : CellarCars.class.getDeclaredConstructors()) {
            CHECK.that("one constructor", Modifier.isPublic(c.getModifiers()) && c.getParameterCount() == 0);
        }
        for (Method m : CellarCars.class.getDeclaredMethods()) {
            boolean hidden = Modifier.isPrivate(m.getModifiers());
            CHECK.that(told(m) + " is public or private", hidden || Modifier.isPublic(m.getModifiers()));
            CHECK.that(told(m) + " has a name of its own", !hidden || !names.contains(m.getName()));
        }
        for (Class<?> inside : CellarCars.class.getDeclaredClasses()) {
            for (Method m : inside.getDeclaredMethods()) {
                CHECK.that(inside + ": " + told(m) + " has a name of its own", !names.contains(m.getName()));
            }
        }
    }

    private static void members(Class<?> type) {
        int fields = 0;
        for (Field f : type.getDeclaredFields()) {
            boolean isStatic = Modifier.isStatic(f.getModifiers());
            fields += isStatic ? 0 : 1;
            CHECK.that(f + " is final", !isStatic || Modifier.isFinal(f.getModifiers()));
            CHECK.that(f + " is hidden", type != CellarCars.class || Modifier.isPrivate(f.getModifiers()));
        }
        CHECK.that(type + " has at most 20 fields", fields <= 20);
        for (Method m : type.getDeclaredMethods()) {
            CHECK.that(told(m) + " takes at most seven", m.getParameterCount() <= 7);
        }
    }

    private static void words(String code) {
        for (String word : WORDS) {
            CHECK.that("without " + word, !Pattern.compile(word).matcher(code).find());
        }
        Matcher imports = Pattern.compile("import ([^;]*);").matcher(code);
        while (imports.find()) {
            CHECK.that(imports.group(), imports.group(1).equals("java.util.Arrays"));
        }
        CHECK.that("signs 1 to 127", code.chars().allMatch(c -> c > 0 && c < 128));
    }

    private static void methodsAreShort(String code) {
        int begun = -1;
        String[] lines = code.split("\n");
        for (int i = 0; i < lines.length; i++) {
            boolean head = lines[i].matches("( {4}| {8})[^ }].*\\) \\{") && !lines[i].matches(" *(if|for|while|switch).*");
            boolean end = lines[i].matches("( {4}| {8})}");
            if (head) {
                begun = i;
            } else if (end && begun >= 0) {
                CHECK.that("short: " + lines[begun].trim(), i - begun <= 60);
                begun = -1;
            }
        }
    }

    /** The calls of a run live in one room, so that the dearest of them must not fill it. */
    private static void callsMakeNothing() {
        com.sun.management.ThreadMXBean room = (com.sun.management.ThreadMXBean) ManagementFactory.getThreadMXBean();
        CellarCars x = new CellarCars();
        dearCalls(x);
        long before = room.getCurrentThreadAllocatedBytes();
        long still = room.getCurrentThreadAllocatedBytes() - before;
        before = room.getCurrentThreadAllocatedBytes();
        dearCalls(x);
        long made = room.getCurrentThreadAllocatedBytes() - before - still;
        CHECK.that("calls made " + made + " bytes", made < 4096);
    }

    private static void dearCalls(CellarCars x) {
        for (int i = 0; i < 10; i++) {
            x.lane(i % 4, 30, 30, 99);
            x.car(1, 1, 1, i, 5, i);
            x.note(i, 0, true);
            x.park(i, i % 4);
            x.arrive(i);
            x.shunt(i, (i + 1) % 4);
            x.look(i, false);
            x.bid(i % 5, i % 4, i);
            x.sheet(i % 4, 8, 2);
            x.put(i % 4, 0, 11);
            x.text(i % 4);
            x.proves(i, i % 4);
            x.fewest(i);
            x.step(i, 0);
            x.plan();
            x.planned(i);
            x.charged();
            x.charging(i);
            x.rent(i);
            x.giving();
            x.harm(i, 0, 9);
            x.rescue();
            x.rescued(i);
            x.undo();
        }
    }
}
