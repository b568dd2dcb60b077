import java.lang.management.ManagementFactory;
import java.lang.reflect.Constructor;
import java.lang.reflect.Field;
import java.lang.reflect.Method;
import java.lang.reflect.Modifier;
import java.nio.file.Files;
import java.nio.file.Path;
import java.util.ArrayList;
import java.util.Arrays;
import java.util.List;
import java.util.Set;
import java.util.TreeSet;
import java.util.regex.Matcher;
import java.util.regex.Pattern;

/** The face, the rules of LANGUAGE.md that a program can look at, and the room that calls use. */
public final class LanguageTests {
    private static int wrong = 0;

    private static void fault(String what) {
        wrong++;
        System.out.println(what);
    }

    private static final String[] FACE = {
        "int weigh(int, int)", "int ages(int)", "int tell(int, int)", "int age(int, int)", "int count(int)",
        "int mean(int)", "int rate(int, int)", "long fails(int, int)", "long block(int, int)",
        "long least(int, int, int)", "long pair(int, int, int)", "int run(int)", "int type(int)", "int read()",
        "int drift(int)", "int undo()", "int seed(int)", "int image()", "int restore()",
        "int seen(int, int, int, int)", "int film(int, int, int)", "int sheet(int, int, int)", "int drop(int)",
        "int item(int, int, int, long)", "int copy(int, int, int, int, int)"};

    private static final String[] CONSTANTS = {"BAD", "NOT", "FULL", "NONE", "NULL", "CAST", "INDEX", "SIZE"};

    private static void face() {
        Class<?> c = ReplaceAges.class;
        if (!Modifier.isPublic(c.getModifiers()) || !Modifier.isFinal(c.getModifiers())) fault("the class is not public and final");
        Set<String> visible = new TreeSet<>(), names = new TreeSet<>();
        for (Method m : c.getDeclaredMethods()) {
            if (Modifier.isPrivate(m.getModifiers()) || m.isSynthetic()) continue;
            List<String> kinds = new ArrayList<>();
            for (Class<?> p : m.getParameterTypes()) kinds.add(p.getName());
            visible.add(m.getReturnType() + " " + m.getName() + "(" + String.join(", ", kinds) + ")");
            names.add(m.getName());
            if (!Modifier.isPublic(m.getModifiers()) || Modifier.isStatic(m.getModifiers())) fault("not of the face: " + m);
        }
        if (!visible.equals(new TreeSet<>(Arrays.asList(FACE)))) fault("the methods are " + visible);
        Set<String> constants = new TreeSet<>();
        for (Field f : c.getDeclaredFields()) {
            if (!Modifier.isPrivate(f.getModifiers())) constants.add(f.getName());
        }
        if (!constants.equals(new TreeSet<>(Arrays.asList(CONSTANTS)))) fault("the constants are " + constants);
        Constructor<?>[] made = c.getDeclaredConstructors();
        if (made.length != 1 || !Modifier.isPublic(made[0].getModifiers()) || made[0].getParameterCount() != 0) fault("the constructor");
        List<Class<?>> all = new ArrayList<>(List.of(c.getDeclaredClasses()));
        for (Class<?> inside : all) {
            if (!Modifier.isStatic(inside.getModifiers())) fault("not static: " + inside);
        }
        if (all.size() > 11) fault("too many classes");
        all.add(c);
        for (Class<?> one : all) insides(one, names);
    }

    private static void insides(Class<?> one, Set<String> names) {
        int fields = 0;
        for (Method m : one.getDeclaredMethods()) {
            if (one != ReplaceAges.class || Modifier.isPrivate(m.getModifiers())) {
                if (names.contains(m.getName())) fault("bears a name of the face: " + m);
            }
            if (m.getParameterCount() > 7) fault("too many parameters: " + m);
        }
        for (Field f : one.getDeclaredFields()) {
            if (Modifier.isStatic(f.getModifiers()) && !Modifier.isFinal(f.getModifiers())) fault("static and not final: " + f);
            if (!Modifier.isStatic(f.getModifiers())) fields++;
        }
        if (fields > 20) fault("too many fields: " + one);
    }

    private static void source() throws Exception {
        String text = Files.readString(Path.of("src/main/java/ReplaceAges.java"));
        if (!text.chars().allMatch(ch -> ch == '\n' || ch >= 32 && ch < 127)) fault("a sign that is not plain");
        String code = text.replaceAll("(?s)/\\*.*?\\*/", "").replaceAll("//[^\n]*", "");
        String[] words = {"throw", "throws", "try", "catch", "finally", "synchronized", "assert", "package", "double", "float",
            "Object", "hashCode", "toString", "Integer", "Long", "Thread", "Random", "var", "protected", "volatile", "native"};
        for (String word : words) {
            if (Pattern.compile("\\b" + word + "\\b").matcher(code).find()) fault("the word " + word);
        }
        for (String sign : new String[] {"->", "::", "\"", "@", "Exact"}) {
            if (code.contains(sign)) fault("the sign " + sign);
        }
        library(code, "\\bimport ([a-zA-Z.*]+);", Set.of("java.util.Arrays"));
        library(code, "\\b(Math\\.\\w+|Arrays\\.\\w+|System\\.\\w+)", Set.of("Math.min", "Math.max", "Arrays.fill", "System.arraycopy"));
        // A loop without a counter would need an end that its own lines show.
        if (Pattern.compile("\\b(while|do)\\b").matcher(code).find()) fault("a loop without a counter");
        methodLengths(code);
    }

    private static void library(String code, String pattern, Set<String> allowed) {
        Matcher m = Pattern.compile(pattern).matcher(code);
        while (m.find()) {
            if (!allowed.contains(m.group(1))) fault("not of the library: " + m.group(1));
        }
    }

    private static void methodLengths(String code) {
        String[] lines = code.split("\n");
        int began = 0;
        for (int i = 0; i < lines.length; i++) {
            if (lines[i].matches(" {4}( {4})?[a-z][^=;]*\\) \\{")) began = i;
            if (lines[i].matches(" {4}( {4})?\\}") && i - began > 60 && began > 0 && !lines[began].contains("class")) {
                if (lines[i].indexOf('}') == lines[began].length() - lines[began].stripLeading().length()) fault("a long method: " + lines[began]);
            }
        }
    }

    /** The dearest calls, 512 of them, make next to nothing; the room of a run is far above that. */
    private static void room() {
        com.sun.management.ThreadMXBean bean = (com.sun.management.ThreadMXBean) ManagementFactory.getThreadMXBean();
        long id = Thread.currentThread().getId();
        long sum = dearest(new ReplaceAges());
        long before = bean.getThreadAllocatedBytes(id);
        ReplaceAges x = new ReplaceAges();
        long made = bean.getThreadAllocatedBytes(id);
        sum += dearest(x);
        long after = bean.getThreadAllocatedBytes(id);
        if (sum == 0) fault("nothing reckoned");
        if (made - before > 20_000) fault("an object takes " + (made - before) + " bytes");
        if (after - made > 20_000) fault("512 calls take " + (after - made) + " bytes");
    }

    private static long dearest(ReplaceAges x) {
        long sum = 0;
        for (int round = 0; round < 32; round++) {
            sum += x.ages(8) + x.drift(40) + x.run(100) + x.count(12) + x.fails(10, 0) + x.block(10, 1);
            sum += x.least(5, 0, 0) + x.pair(1, 3, 0) + x.image() + x.restore() + x.undo() + x.sheet(0, 3, 24);
            sum += x.film(0, 3, 0) + x.copy(0, 0, 0, 1, 8) + x.type('1') + x.read();
        }
        return sum;
    }

    public static void main(String[] args) throws Exception {
        face();
        source();
        room();
        System.out.println(wrong == 0 ? "the language is kept" : wrong + " faults");
        if (wrong != 0) System.exit(1);
    }
}
