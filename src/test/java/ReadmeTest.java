import java.io.IOException;
import java.io.UncheckedIOException;
import java.lang.reflect.Method;
import java.lang.reflect.Modifier;
import java.net.URL;
import java.net.URLClassLoader;
import java.nio.charset.StandardCharsets;
import java.nio.file.Files;
import java.nio.file.Path;
import java.util.ArrayList;
import java.util.Arrays;
import java.util.Comparator;
import java.util.List;
import java.util.Set;
import java.util.TreeSet;
import java.util.regex.Matcher;
import java.util.regex.Pattern;
import java.util.stream.Collectors;
import java.util.stream.Stream;
import javax.tools.ToolProvider;

/** What README.md says of the class and of its tests is so: its example is compiled and run as it stands there. */
public final class ReadmeTest {
    private static final Path README = Path.of("README.md");
    private static final Path TESTS = Path.of("src/test/java");

    /** A line of the example whose comment begins with the answer: a type, a name, and the answer. */
    private static final Pattern ANSWER =
        Pattern.compile("(int|double) (\\w+) = .*; +// (-?\\d+(?:\\.\\d+)?(?:E-?\\d+)?)(?:[ :,].*)?");

    /** A row of the table of calls: a name, its parameters, what it does, and what it throws. */
    private static final Pattern ROW = Pattern.compile("\\| `(\\w+)\\((.*?)\\)` \\| .*? \\| (.*?) ?\\|");

    private ReadmeTest() {
    }

    public static void main(String[] args) throws Exception {
        String readme = Files.readString(README, StandardCharsets.UTF_8);
        example(readme);
        tableOfCalls(readme);
        everyTestIsNamed(readme);
        commands(readme);
        Check.end("ReadmeTest");
    }

    private static List<String> blocks(String readme, String language) {
        List<String> found = new ArrayList<>();
        Matcher block = Pattern.compile("(?s)```" + language + "\n(.*?)```").matcher(readme);
        while (block.find()) {
            found.add(block.group(1));
        }
        return found;
    }

    private static void example(String readme) throws Exception {
        List<String> code = blocks(readme, "java");
        Check.due("examples in README.md", code.size(), 1);
        List<String> names = new ArrayList<>();
        List<String> due = new ArrayList<>();
        for (String line : code.get(0).split("\n")) {
            Matcher answer = ANSWER.matcher(line);
            if (answer.matches()) {
                names.add(answer.group(2));
                due.add(answer.group(3));
            } else {
                Check.due("an answer that README.md does not tell: " + line, line.matches("(int|double) .*"), false);
            }
        }
        Check.due("README.md tells answers", due.size() >= 5, true);
        Path room = Files.createTempDirectory("readme");
        try {
            Object[] got = run(code.get(0), names, room);
            for (int k = 0; k < due.size(); k++) {
                Check.due("README.md: " + names.get(k), String.valueOf(got[k]), due.get(k));
            }
        } finally {
            clear(room);
        }
    }

    private static Object[] run(String code, List<String> names, Path room) throws Exception {
        Path source = room.resolve("Example.java");
        Files.writeString(source, "public class Example { public static Object[] answers() {\n" + code
            + "return new Object[] {" + String.join(", ", names) + "}; } }\n");
        int compiled = ToolProvider.getSystemJavaCompiler().run(null, null, null,
            "-cp", System.getProperty("java.class.path"), "-d", room.toString(), source.toString());
        Check.due("javac of README.md's example", compiled, 0);
        if (compiled != 0) {
            return new Object[names.size()];
        }
        try (URLClassLoader loader = new URLClassLoader(new URL[] {room.toUri().toURL()})) {
            return (Object[]) loader.loadClass("Example").getMethod("answers").invoke(null);
        }
    }

    private static void clear(Path room) throws IOException {
        try (Stream<Path> inside = Files.walk(room)) {
            inside.sorted(Comparator.reverseOrder()).forEach(ReadmeTest::delete);
        }
    }

    private static void delete(Path one) {
        try {
            Files.delete(one);
        } catch (IOException e) {
            throw new UncheckedIOException(e);
        }
    }

    /** Each public method has one row, with as many parameters and the same exceptions as in the class. */
    private static void tableOfCalls(String readme) {
        Set<String> rows = new TreeSet<>();
        for (String line : readme.split("\n")) {
            Matcher row = ROW.matcher(line);
            if (row.matches()) {
                long parameters = Arrays.stream(row.group(2).split(", ")).filter(p -> !p.isEmpty()).count();
                String thrown = row.group(3).replaceAll(" \\(.*?\\)", "");
                Check.due("two rows for " + row.group(1), rows.add(row.group(1) + "/" + parameters + " " + thrown),
                    true);
            }
        }
        Set<String> calls = new TreeSet<>();
        for (Method m : OdeBench.class.getDeclaredMethods()) {
            if (Modifier.isPublic(m.getModifiers())) {
                String thrown = Arrays.stream(m.getExceptionTypes()).map(Class::getSimpleName)
                    .collect(Collectors.joining(", "));
                calls.add(m.getName() + "/" + m.getParameterCount() + " " + thrown);
            }
        }
        Check.due("README.md's table of calls", String.join("\n", rows), String.join("\n", calls));
    }

    private static void everyTestIsNamed(String readme) throws IOException {
        Set<String> there = new TreeSet<>();
        try (Stream<Path> files = Files.list(TESTS)) {
            files.map(f -> f.getFileName().toString()).filter(f -> f.endsWith("Test.java"))
                .forEach(f -> there.add(f.replace(".java", "")));
        }
        Set<String> listed = new TreeSet<>();
        Matcher row = Pattern.compile("(?m)^- `(\\w+Test)`: ").matcher(readme);
        while (row.find()) {
            listed.add(row.group(1));
        }
        Check.due("the tests that README.md lists", String.join(" ", listed), String.join(" ", there));
    }

    /** The commands name files that there are, and the one that runs all the tests stands alone. */
    private static void commands(String readme) {
        List<String> shell = blocks(readme, "sh");
        Check.due("README.md gives the command for the tests", shell.contains(".ci/run\n"), true);
        Check.due(".ci/run can be called", Files.isExecutable(Path.of(".ci/run")), true);
        Matcher file = Pattern.compile("\\bsrc/[\\w/]+(?:\\.java)?").matcher(String.join("\n", shell));
        int files = 0;
        while (file.find()) {
            Check.due(file.group() + " is there", Files.exists(Path.of(file.group())), true);
            files++;
        }
        Check.due("README.md's commands name files", files >= 3, true);
    }
}
