import java.io.IOException;
import java.lang.reflect.Constructor;
import java.lang.reflect.Field;
import java.lang.reflect.Method;
import java.lang.reflect.Modifier;
import java.nio.charset.StandardCharsets;
import java.nio.file.Files;
import java.nio.file.Path;
import java.util.Arrays;
import java.util.List;
import java.util.Map;
import java.util.Set;
import java.util.TreeMap;
import java.util.TreeSet;
import java.util.regex.Matcher;
import java.util.regex.Pattern;
import java.util.stream.Collectors;

/** The class's face is the document's, and its text keeps to those rules of LANGUAGE.md that a search can see. */
public final class FaceTest {
    private static final Path PROGRAM = Path.of("src/main/java/OdeBench.java");

    private static final List<String> FACE = List.of(
        "at(int) double throws IllegalArgumentException",
        "between(int, double) double throws IllegalArgumentException, NoSuchElementException",
        "derivative(int) double throws IllegalArgumentException",
        "event(int) double throws NoSuchElementException",
        "events() int",
        "go(int, double) int throws IllegalArgumentException, ArithmeticException",
        "nextSize() double",
        "size(double, double) void throws IllegalArgumentException",
        "step(int) void throws IllegalArgumentException, ArithmeticException",
        "steps(boolean) int",
        "system(int) void throws IllegalArgumentException",
        "term(int, double, int, int) int throws IllegalArgumentException, IllegalStateException",
        "time() double",
        "value(int, double) void throws IllegalArgumentException",
        "watch(int, double) void throws IllegalArgumentException");

    private FaceTest() {
    }

    public static void main(String[] args) throws IOException {
        publicMethods();
        nothingElseIsSeen();
        nestedClasses();
        staticFields();
        sourceText();
        callsGoEightDeep();
        Check.end("FaceTest");
    }

    private static String names(Class<?>[] classes) {
        return Arrays.stream(classes).map(Class::getSimpleName).collect(Collectors.joining(", "));
    }

    private static String faceOf(Method m) {
        String thrown = names(m.getExceptionTypes());
        return m.getName() + "(" + names(m.getParameterTypes()) + ") " + m.getReturnType().getSimpleName()
            + (thrown.isEmpty() ? "" : " throws " + thrown);
    }

    private static void publicMethods() {
        Set<String> seen = new TreeSet<>();
        for (Method m : OdeBench.class.getDeclaredMethods()) {
            if (Modifier.isPublic(m.getModifiers())) {
                seen.add(faceOf(m));
                Check.due(m.getName() + " is static", Modifier.isStatic(m.getModifiers()), false);
            }
        }
        Check.due("the public methods", String.join("\n", seen), String.join("\n", new TreeSet<>(FACE)));
        Check.due("the class is final", Modifier.isFinal(OdeBench.class.getModifiers()), true);
        Check.due("the class is public", Modifier.isPublic(OdeBench.class.getModifiers()), true);
        Constructor<?>[] made = OdeBench.class.getDeclaredConstructors();
        Check.due("constructors", made.length, 1);
        Check.due("the constructor is public", Modifier.isPublic(made[0].getModifiers()), true);
        Check.due("the constructor's parameters", made[0].getParameterCount(), 0);
    }

    private static void nothingElseIsSeen() {
        Set<String> open = new TreeSet<>();
        for (String one : FACE) {
            open.add(one.substring(0, one.indexOf('(')));
        }
        for (Method m : OdeBench.class.getDeclaredMethods()) {
            if (!Modifier.isPublic(m.getModifiers())) {
                Check.due(m.getName() + " is private", Modifier.isPrivate(m.getModifiers()), true);
                Check.due(m.getName() + " bears a public name", open.contains(m.getName()), false);
            }
            Check.due(m.getName() + " has at most seven parameters", m.getParameterCount() <= 7, true);
        }
        for (Field f : OdeBench.class.getDeclaredFields()) {
            Check.due(f.getName() + " is private", Modifier.isPrivate(f.getModifiers()), true);
        }
    }

    private static void nestedClasses() {
        Class<?>[] inside = OdeBench.class.getDeclaredClasses();
        Check.due("not too many classes", inside.length <= 11, true);
        for (Class<?> one : inside) {
            String name = one.getSimpleName();
            boolean seen = Modifier.isPublic(one.getModifiers()) || Modifier.isProtected(one.getModifiers());
            Check.due(name + " is seen outside", seen, false);
            Check.due(name + " is static", Modifier.isStatic(one.getModifiers()), true);
            long fields = Arrays.stream(one.getDeclaredFields())
                .filter(f -> !Modifier.isStatic(f.getModifiers())).count();
            Check.due(name + " has at most twenty fields", fields <= 20, true);
            for (Method m : one.getDeclaredMethods()) {
                Check.due(name + "." + m.getName() + " has at most seven parameters",
                    m.getParameterCount() <= 7, true);
            }
        }
    }

    private static void staticFields() {
        staticFields(OdeBench.class);
        for (Class<?> one : OdeBench.class.getDeclaredClasses()) {
            staticFields(one);
        }
    }

    private static void staticFields(Class<?> one) {
        for (Field f : one.getDeclaredFields()) {
            if (Modifier.isStatic(f.getModifiers())) {
                Check.due(f.getName() + " is final", Modifier.isFinal(f.getModifiers()), true);
                Check.due(f.getName() + " is an int", f.getType().getSimpleName(), "int");
            }
        }
    }

    private static void sourceText() throws IOException {
        List<String> lines = Files.readAllLines(PROGRAM, StandardCharsets.UTF_8);
        String[] ruledOut = {"->", "::", "synchronized", "assert ", "finally", "try {", "catch (", "package ",
            "Math.abs", "Math.max", "Math.min", "Math.sqrt", "Exact(", "System.", "Double.", "lambda", "static {",
            "while ", "protected ", "getMessage", ".toString", ".hashCode", "var "};
        for (int k = 0; k < lines.size(); k++) {
            String line = lines.get(k);
            String where = "line " + (k + 1);
            for (String word : ruledOut) {
                Check.due(where + " has " + word, line.contains(word), false);
            }
            if (line.contains("import ")) {
                Check.due(where, line, "import java.util.NoSuchElementException;");
            }
            // What a run makes is counted: rows are made with their object, and else only exceptions.
            if (line.contains("new ") && line.contains("(") || line.contains("new ") && line.contains("[")) {
                boolean once = line.contains("final ") || line.contains("throw new ") || line.contains("this.");
                Check.due(where + " makes something only once", once, true);
            }
        }
    }

    /** The methods by name, each with the names of the program's methods that its lines call. */
    private static Map<String, Set<String>> callsByName() throws IOException {
        Pattern header = Pattern.compile("^( +)(?:(?:public|private|static) )*[a-z]\\w*(?:\\[\\])* (\\w+)\\(.*\\{$");
        Map<String, Set<String>> calls = new TreeMap<>();
        String name = null;
        String end = "";
        for (String line : Files.readAllLines(PROGRAM, StandardCharsets.UTF_8)) {
            Matcher begins = header.matcher(line);
            if (name == null && begins.matches()) {
                name = begins.group(2);
                end = begins.group(1) + "}";
                calls.putIfAbsent(name, new TreeSet<>());
            } else if (line.equals(end)) {
                name = null;
            } else if (name != null) {
                Matcher called = Pattern.compile("\\b(\\w+)\\(").matcher(line);
                while (called.find()) {
                    calls.get(name).add(called.group(1));
                }
            }
        }
        return calls;
    }

    private static int depth(String name, Map<String, Set<String>> calls, int above) {
        int deepest = above + 1;
        for (String one : calls.get(name)) {
            if (calls.containsKey(one) && above < 40) {
                deepest = Math.max(deepest, depth(one, calls, above + 1));
            }
        }
        return deepest;
    }

    private static void callsGoEightDeep() throws IOException {
        Map<String, Set<String>> calls = callsByName();
        for (String one : FACE) {
            String name = one.substring(0, one.indexOf('('));
            Check.due("the text has " + name, calls.containsKey(name), true);
            Check.due(name + " goes at most eight deep", depth(name, calls, 0) <= 8, true);
        }
        Check.due("steps are seen through to a term's factor", depth("go", calls, 0) >= 7, true);
    }
}
