import java.io.IOException;
import java.lang.reflect.InvocationTargetException;
import java.lang.reflect.Method;
import java.lang.reflect.Modifier;
import java.nio.file.Files;
import java.nio.file.Path;
import java.util.ArrayList;
import java.util.HashSet;
import java.util.List;
import java.util.Set;
import java.util.TreeSet;
import java.util.regex.Matcher;
import java.util.regex.Pattern;
import java.util.stream.Stream;

/**
 * Reads README.md: the rows of its Java blocks are one run, and each must answer what is told behind it; every call of
 * the face and every exception must be among them; the limits and the tests that it tells are those that there are.
 */
public final class ReadmeTest {
    private static final Check CHECK = new Check();
    private static final Path README = Path.of("README.md");
    private static final Path TESTS = Path.of("src/test/java");
    private static final Pattern MAKES = Pattern.compile("NearTree tree = new NearTree\\((-?\\d+)\\); *(//.*)?");
    private static final Pattern CALLS = Pattern.compile("tree\\.(\\w+)\\(([^()]*)\\); *// (= -?\\d+|throws \\w+)(: .*)?");
    private static final int MOST_CALLS = 512;

    private static final Set<String> called = new TreeSet<>();
    private static final Set<String> thrown = new TreeSet<>();

    public static void main(String[] args) throws IOException {
        List<String> lines = Files.readAllLines(README);
        NearTree tree = null;
        for (String row : javaRows(lines)) {
            Matcher makes = MAKES.matcher(row);
            if (makes.matches()) {
                CHECK.is("objects made ahead of '" + row + "'", tree == null ? 0 : 1, 0);
                tree = new NearTree(Integer.parseInt(makes.group(1)));
            } else {
                answers(tree, row);
            }
        }
        String text = String.join("\n", lines);
        allIsTold();
        limitsAreThose(text);
        testsAreThose(text);
        CHECK.end();
    }

    private static List<String> javaRows(List<String> lines) {
        List<String> rows = new ArrayList<>();
        boolean inside = false;
        for (String line : lines) {
            if (line.startsWith("```")) {
                inside = line.equals("```java");
            } else if (inside && !line.isBlank()) {
                rows.add(line.trim());
            }
        }
        CHECK.is("README.md has rows, no more than an object is good for", rows.size() > 1 && rows.size() <= MOST_CALLS ? 1 : 0, 1);
        return rows;
    }

    private static void answers(NearTree tree, String row) {
        Matcher call = CALLS.matcher(row);
        Method method = call.matches() ? faceMethod(call.group(1)) : null;
        if (tree == null || method == null) {
            CHECK.fail("README.md has a row that is no call with its answer: " + row);
            return;
        }
        String got = answer(tree, method, call.group(2));
        called.add(method.getName());
        if (got.startsWith("throws ")) {
            thrown.add(got);
        }
        CHECK.is("README.md, '" + row + "', got '" + got + "'", got.equals(call.group(3)) ? 1 : 0, 1);
    }

    private static Method faceMethod(String name) {
        for (Method method : NearTree.class.getDeclaredMethods()) {
            if (Modifier.isPublic(method.getModifiers()) && method.getName().equals(name)) {
                return method;
            }
        }
        return null;
    }

    private static String answer(NearTree tree, Method method, String numbers) {
        String[] words = numbers.isBlank() ? new String[0] : numbers.split(", ");
        Class<?>[] types = method.getParameterTypes();
        if (words.length != types.length) {
            return "no such call: " + words.length + " numbers";
        }
        Object[] values = new Object[words.length];
        for (int i = 0; i < words.length; i++) {
            if (types[i] == long.class) {
                values[i] = Long.valueOf(words[i]);
            } else {
                values[i] = Integer.valueOf(words[i]);
            }
        }
        try {
            return "= " + method.invoke(tree, values);
        } catch (InvocationTargetException e) {
            return "throws " + e.getCause().getClass().getSimpleName();
        } catch (IllegalAccessException e) {
            return "no such call: it is not open";
        }
    }

    private static void allIsTold() {
        for (Method method : NearTree.class.getDeclaredMethods()) {
            if (Modifier.isPublic(method.getModifiers())) {
                CHECK.is("README.md tells " + method.getName(), called.contains(method.getName()) ? 1 : 0, 1);
            }
        }
        Set<String> due = Set.of("throws IllegalArgumentException", "throws IllegalStateException", "throws IndexOutOfBoundsException");
        CHECK.is("README.md tells each exception, got " + thrown, thrown.equals(due) ? 1 : 0, 1);
    }

    /** 'IDs are 0 to 99, the numbers of a place -10000 to 10000, and at most 60 points are live at once': by these numbers. */
    private static void limitsAreThose(String text) {
        Matcher told = Pattern.compile("IDs are (-?\\d+) to (-?\\d+), the numbers of a place (-?\\d+) to (-?\\d+), "
            + "and at\\s+most (\\d+) points are live").matcher(text);
        if (!told.find()) {
            CHECK.fail("README.md does not tell the limits");
            return;
        }
        int[] limits = new int[6];
        for (int i = 1; i < limits.length; i++) {
            limits[i] = Integer.parseInt(told.group(i));
        }
        NearTree tree = new NearTree(1);
        CHECK.is("the least ID and number", tree.put(limits[1], limits[3], 0, 0, 0), 1);
        CHECK.is("the greatest ID and number", tree.put(limits[2], limits[4], 0, 0, 0), 2);
        CHECK.refused("below the least ID", () -> tree.put(limits[1] - 1, 0, 0, 0, 0));
        CHECK.refused("above the greatest ID", () -> tree.put(limits[2] + 1, 0, 0, 0, 0));
        CHECK.refused("below the least number", () -> tree.put(limits[1] + 1, limits[3] - 1, 0, 0, 0));
        CHECK.refused("above the greatest number", () -> tree.put(limits[1] + 1, limits[4] + 1, 0, 0, 0));
        for (int live = 3; live <= limits[5]; live++) {
            CHECK.is("no more than can be live", tree.put(limits[1] + live, 0, 0, 0, 0), live);
        }
        CHECK.badState("more than can be live", () -> tree.put(limits[1] + 1, 0, 0, 0, 0));
    }

    private static void testsAreThose(String text) throws IOException {
        Set<String> told = new HashSet<>();
        Matcher word = Pattern.compile("`(\\w+)`").matcher(text.substring(Math.max(0, text.indexOf("## Tests"))));
        while (word.find()) {
            told.add(word.group(1));
        }
        Set<String> there = new TreeSet<>();
        try (Stream<Path> files = Files.list(TESTS)) {
            files.forEach(file -> there.add(file.getFileName().toString().replace(".java", "")));
        }
        for (String name : there) {
            CHECK.is("README.md tells " + name, told.contains(name) ? 1 : 0, 1);
        }
        for (String name : told) {
            if (name.endsWith("Test")) {
                CHECK.is(name + ", which README.md tells, is there", there.contains(name) ? 1 : 0, 1);
            }
        }
        CHECK.is(".ci/run, which README.md tells, can be run", Files.isExecutable(Path.of(".ci/run")) ? 1 : 0, 1);
    }
}
