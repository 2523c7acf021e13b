import java.io.IOException;
import java.lang.reflect.Constructor;
import java.lang.reflect.Field;
import java.lang.reflect.Method;
import java.lang.reflect.Modifier;
import java.nio.file.Files;
import java.nio.file.Path;
import java.util.HashSet;
import java.util.List;
import java.util.Set;
import java.util.TreeSet;
import java.util.regex.Matcher;
import java.util.regex.Pattern;

/**
 * The document's public face, no more and no less, and LANGUAGE.md's rules 1, 5 and 11 where a class file shows them;
 * and that the source writes the face as the document does, with what it says ahead of the calls.
 */
public final class FaceTest {
    private static final Check CHECK = new Check();

    private static final String[] FACE = {
        "public int NearTree.at(int,int) throws java.lang.IllegalArgumentException,java.lang.IllegalStateException",
        "public int NearTree.count(int) throws java.lang.IllegalArgumentException",
        "public int NearTree.drop(int) throws java.lang.IllegalArgumentException,java.lang.IllegalStateException",
        "public int NearTree.inBox(int,int,int,int,int,int) throws java.lang.IllegalArgumentException",
        "public int NearTree.listed(int) throws java.lang.IndexOutOfBoundsException",
        "public int NearTree.looked()",
        "public int NearTree.nearest(int,int,int,int,int) throws java.lang.IllegalArgumentException",
        "public int NearTree.node(int,int) throws java.lang.IllegalArgumentException,java.lang.IllegalStateException",
        "public int NearTree.parts(long) throws java.lang.IllegalArgumentException",
        "public int NearTree.put(int,int,int,int,int) throws java.lang.IllegalArgumentException,java.lang.IllegalStateException",
        "public int NearTree.walk(int) throws java.lang.IndexOutOfBoundsException",
        "public int NearTree.within(long,int,int,int,int) throws java.lang.IllegalArgumentException",
        "public long NearTree.distance(int) throws java.lang.IndexOutOfBoundsException",
        "public long NearTree.pair(int) throws java.lang.IllegalArgumentException,java.lang.IllegalStateException",
        "public long NearTree.span()",
    };

    public static void main(String[] args) throws IOException {
        Set<String> open = new TreeSet<>();
        Set<String> names = new HashSet<>();
        for (Method method : NearTree.class.getDeclaredMethods()) {
            if (!Modifier.isPrivate(method.getModifiers())) {
                open.add(method.toString());
                names.add(method.getName());
            }
        }
        same("the open methods", open, new TreeSet<>(Set.of(FACE)));
        Set<String> others = new TreeSet<>();
        for (Field field : NearTree.class.getDeclaredFields()) {
            if (!Modifier.isPrivate(field.getModifiers())) {
                others.add(field.toString());
            }
        }
        for (Constructor<?> constructor : NearTree.class.getDeclaredConstructors()) {
            others.add(constructor.toString());
        }
        same("the open constants and constructors", others,
            new TreeSet<>(Set.of("public static final int NearTree.NONE", "public NearTree(int)")));
        CHECK.is("public and final", NearTree.class.getModifiers(), Modifier.PUBLIC | Modifier.FINAL);
        shape(NearTree.class, names);
        CHECK.is("at most twelve classes", NearTree.class.getDeclaredClasses().length < 12 ? 1 : 0, 1);
        for (Class<?> inside : NearTree.class.getDeclaredClasses()) {
            CHECK.is(inside + " is static", Modifier.isStatic(inside.getModifiers()) ? 1 : 0, 1);
            CHECK.is(inside + " is not open", inside.getModifiers() & (Modifier.PUBLIC | Modifier.PROTECTED), 0);
            shape(inside, names);
        }
        String document = Files.readString(Path.of("../shared/DOC.md"));
        List<String> source = Files.readAllLines(Path.of("src/main/java/NearTree.java"));
        writtenAsTheDocumentDoes(document, source);
        saidAheadOfTheCalls(document, source);
        CHECK.end();
    }

    private static void writtenAsTheDocumentDoes(String document, List<String> source) {
        int from = document.indexOf("```java");
        int to = document.indexOf("```", from + 3);
        int rows = 0;
        for (String row : document.substring(from, to).split("\n")) {
            if (row.trim().startsWith("public")) {
                rows++;
                // A method or a constructor has a body in the source, where the document has a semicolon.
                String due = row.endsWith(");") || row.contains(" throws ") ? row.replace(";", " {") : row;
                CHECK.is("the source has the row '" + due + "'", source.contains(due) ? 1 : 0, 1);
            }
        }
        CHECK.is("rows of the document's face", rows, FACE.length + 3);
    }

    private static void saidAheadOfTheCalls(String document, List<String> source) {
        Matcher says = Pattern.compile("Ahead of the calls (.*) the interface says: (----.*)\\.").matcher(document);
        int calls = 0;
        while (says.find()) {
            Matcher name = Pattern.compile("`(\\w+)`").matcher(says.group(1));
            while (name.find()) {
                calls++;
                String said = "";
                for (String line : source) {
                    if (line.startsWith("    // ----")) {
                        said = line.trim();
                    }
                    if (line.matches("    public \\w+ " + name.group(1) + "\\(.*")) {
                        CHECK.is(name.group(1) + " stands behind '" + said + "'", said.equals("// " + says.group(2)) ? 1 : 0, 1);
                    }
                }
            }
        }
        CHECK.is("calls that the document says something ahead of", calls, FACE.length);
    }

    private static void same(String what, Set<String> got, Set<String> due) {
        CHECK.is(what, got.equals(due) ? 1 : 0, 1);
        if (!got.equals(due)) {
            CHECK.fail("got " + got + "\ndue " + due);
        }
    }

    private static void shape(Class<?> type, Set<String> faceNames) {
        int fields = 0;
        for (Field field : type.getDeclaredFields()) {
            boolean isStatic = Modifier.isStatic(field.getModifiers());
            fields += isStatic ? 0 : 1;
            CHECK.is(field + " is final, if static", !isStatic || Modifier.isFinal(field.getModifiers()) ? 1 : 0, 1);
        }
        CHECK.is(type + " has at most twenty fields", fields <= 20 ? 1 : 0, 1);
        for (Method method : type.getDeclaredMethods()) {
            CHECK.is(method + " has at most seven parameters", method.getParameterCount() <= 7 ? 1 : 0, 1);
            boolean onFace = type == NearTree.class && Modifier.isPublic(method.getModifiers());
            CHECK.is(method + " bears no name of the face", onFace || !faceNames.contains(method.getName()) ? 1 : 0, 1);
        }
    }
}
