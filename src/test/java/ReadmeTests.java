import java.lang.reflect.Field;
import java.lang.reflect.Method;
import java.lang.reflect.Modifier;
import java.nio.file.Files;
import java.nio.file.Path;
import java.util.ArrayList;
import java.util.List;
import java.util.Map;
import java.util.Set;
import java.util.TreeMap;
import java.util.TreeSet;
import java.util.regex.Matcher;
import java.util.regex.Pattern;

/** README.md is read: what it says of methods and constants is so, its example answers as it says. */
public final class ReadmeTests {
    private static final Pattern METHOD = Pattern.compile("^\\| `(int|long) (\\w+)\\(([^)]*)\\)` \\| \\S.*\\|$");
    private static final Pattern CONSTANT = Pattern.compile("^\\| `(\\w+)` \\| (-?\\d+) \\| \\S.*\\|$");
    private static final Pattern CALL = Pattern.compile("^x\\.(\\w+)\\(([^)]*|'.')\\); +// (-?\\d+|[A-Z]+)(:.*)?$");
    private static final String MAKING = "ReplaceAges x = new ReplaceAges();";

    private static int wrong = 0;

    private static void fault(String what) {
        wrong++;
        System.out.println("README.md: " + what);
    }

    private static void methods(List<String> lines) {
        Set<String> told = new TreeSet<>(), are = new TreeSet<>();
        for (String line : lines) {
            Matcher m = METHOD.matcher(line);
            if (m.matches() && !told.add(m.group(1) + " " + m.group(2) + "(" + m.group(3).replaceAll(" \\w+(,|$)", "$1") + ")")) {
                fault("told twice: " + m.group(2));
            }
        }
        for (Method m : ReplaceAges.class.getDeclaredMethods()) {
            if (!Modifier.isPublic(m.getModifiers())) continue;
            List<String> kinds = new ArrayList<>();
            for (Class<?> p : m.getParameterTypes()) kinds.add(p.getName());
            are.add(m.getReturnType() + " " + m.getName() + "(" + String.join(", ", kinds) + ")");
        }
        if (!told.equals(are)) fault("it tells the methods " + told + ", which are " + are);
    }

    private static void constants(List<String> lines) throws ReflectiveOperationException {
        Map<String, Integer> told = new TreeMap<>(), are = new TreeMap<>();
        for (String line : lines) {
            Matcher m = CONSTANT.matcher(line);
            if (m.matches()) told.put(m.group(1), Integer.valueOf(m.group(2)));
        }
        for (Field f : ReplaceAges.class.getFields()) are.put(f.getName(), f.getInt(null));
        if (!told.equals(are)) fault("it tells the constants " + told + ", which are " + are);
    }

    /** The lines of the one block of Java. */
    private static List<String> example(List<String> lines) {
        int begin = lines.indexOf("```java");
        if (begin < 0 || begin != lines.lastIndexOf("```java")) return List.of();
        List<String> rest = lines.subList(begin + 1, lines.size());
        int end = rest.indexOf("```");
        return end < 0 ? List.of() : rest.subList(0, end);
    }

    private static Method named(String name) {
        for (Method m : ReplaceAges.class.getDeclaredMethods()) {
            if (m.getName().equals(name) && Modifier.isPublic(m.getModifiers())) return m;
        }
        return null;
    }

    private static long number(String told) throws ReflectiveOperationException {
        if (told.matches("[A-Z]+")) return ReplaceAges.class.getField(told).getInt(null);
        return told.matches("'.'") ? told.charAt(1) : Long.parseLong(told);
    }

    private static Object[] arguments(Method method, String told) throws ReflectiveOperationException {
        String[] each = told.isEmpty() ? new String[0] : told.matches("'.'") ? new String[] {told} : told.split(", ");
        Object[] arguments = new Object[each.length];
        for (int i = 0; i < each.length; i++) {
            long v = number(each[i]);
            arguments[i] = i < method.getParameterCount() && method.getParameterTypes()[i] == int.class ? (Object) (int) v : (Object) v;
        }
        return arguments;
    }

    private static void call(ReplaceAges x, String line, Matcher told) throws ReflectiveOperationException {
        Method method = named(told.group(1));
        if (method == null) {
            fault("no such method: " + line);
            return;
        }
        long got = ((Number) method.invoke(x, arguments(method, told.group(2)))).longValue();
        if (got != number(told.group(3))) fault("it is " + got + ": " + line);
    }

    private static void exampleAnswers(List<String> lines) throws ReflectiveOperationException {
        List<String> example = example(lines);
        if (example.size() < 2 || !example.get(0).equals(MAKING)) {
            fault("no example that begins with " + MAKING);
            return;
        }
        ReplaceAges x = new ReplaceAges();
        for (String line : example.subList(1, example.size())) {
            Matcher told = CALL.matcher(line);
            if (told.matches()) call(x, line, told);
            else fault("no call with its answer: " + line);
        }
    }

    /** Each test of the project is told, and each that is told is there. */
    private static void tests(List<String> lines) throws Exception {
        Set<String> told = new TreeSet<>(), are = new TreeSet<>();
        Pattern test = Pattern.compile("^- `(src/test/java/\\w+\\.java)`: .*");
        for (String line : lines) {
            Matcher m = test.matcher(line);
            if (m.matches()) told.add(m.group(1));
        }
        try (var files = Files.list(Path.of("src/test/java"))) {
            files.forEach(f -> are.add(f.toString()));
        }
        if (!told.equals(are)) fault("it tells the tests " + told + ", which are " + are);
        if (!lines.contains(".ci/run")) fault("it does not say how to run the tests");
    }

    public static void main(String[] args) throws Exception {
        List<String> lines = Files.readAllLines(Path.of("README.md"));
        methods(lines);
        constants(lines);
        exampleAnswers(lines);
        tests(lines);
        System.out.println(wrong == 0 ? "README.md says what is so" : wrong + " faults");
        if (wrong != 0) System.exit(1);
    }
}
