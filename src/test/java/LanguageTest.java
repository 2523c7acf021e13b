import java.io.IOException;
import java.nio.file.Files;
import java.nio.file.Path;
import java.util.List;
import java.util.regex.Matcher;
import java.util.regex.Pattern;

/** What of LANGUAGE.md the source's text shows: words that it leaves out, what is thrown and where, how long methods are. */
public final class LanguageTest {
    private static final Check CHECK = new Check();
    private static final Path SOURCE = Path.of("src/main/java/NearTree.java");
    private static final int MOST_LINES = 60;

    /** The class needs none of these, though the rules allow a few of them in places. */
    private static final List<String> LEFT_OUT = List.of("package", "import", "try", "catch", "finally", "synchronized", "volatile", "assert",
        "goto", "native", "yield", "System", "Thread", "Object", "Exception", "RuntimeException", "Error", "NullPointerException",
        "ArrayIndexOutOfBoundsException", "ClassCastException", "NegativeArraySizeException", "ArrayStoreException", "getMessage",
        "getClass", "equals", "hashCode", "toString", "double", "float", "var", "java", "random", "addExact", "multiplyExact");

    public static void main(String[] args) throws IOException {
        String source = Files.readString(SOURCE);
        String code = withoutTextsAndComments(source);
        for (String word : LEFT_OUT) {
            CHECK.is("the source has the word " + word, has(code, "\\b" + word + "\\b"), 0);
        }
        CHECK.is("rule 2: a lambda", has(code, "->"), 0);
        CHECK.is("rule 2: a method reference", has(code, "::"), 0);
        CHECK.is("rule 5: a static initialiser", has(code, "static\\s*\\{"), 0);
        CHECK.is("rule 9: a loop without an end", has(code, "while\\s*\\(\\s*true|for\\s*\\([^;]*;\\s*;"), 0);
        CHECK.is("signs beyond 127", has(source, "[^\\x00-\\x7f]"), 0);
        thrownAsTheRulesSay(source, code);
        shortMethods(code.split("\n"));
        CHECK.end();
    }

    private static String withoutTextsAndComments(String source) {
        return source.replaceAll("\"(\\\\.|[^\"\\\\\n])*\"", "\"\"").replaceAll("(?s)/\\*.*?\\*/", "").replaceAll("//[^\n]*", "");
    }

    private static int has(String code, String pattern) {
        return Pattern.compile(pattern).matcher(code).find() ? 1 : 0;
    }

    private static void thrownAsTheRulesSay(String source, String code) {
        int all = count(code, "\\bthrow\\b");
        int good = count(source, "throw new (IllegalStateException|IllegalArgumentException|IndexOutOfBoundsException)\\(\"[^\"]+\"\\);");
        CHECK.is("rule 6: what is thrown, with a written text", good, all);
        int ahead = count(code.substring(0, Math.max(0, code.indexOf("private static boolean isId("))), "\\bthrow\\b");
        CHECK.is("rule 6: the face alone throws", ahead, all);
    }

    private static int count(String code, String pattern) {
        Matcher matcher = Pattern.compile(pattern).matcher(code);
        int found = 0;
        while (matcher.find()) {
            found++;
        }
        return found;
    }

    /** A method begins with a row that has a '(' and ends with '{', and ends with a '}' as far to the right. */
    private static void shortMethods(String[] lines) {
        int methods = 0;
        for (int from = 0; from < lines.length; from++) {
            Matcher head = Pattern.compile("( {4}| {8})(public |private |static |final )*\\w+(\\[\\])?( \\w+)?\\(.*\\{").matcher(lines[from]);
            if (head.matches()) {
                methods++;
                int to = from + 1;
                while (to < lines.length && !lines[to].equals(head.group(1) + "}")) {
                    to++;
                }
                CHECK.is("rule 11: " + lines[from].trim() + " is short", to - from <= MOST_LINES ? 1 : 0, 1);
            }
        }
        CHECK.is("methods are found", methods > 40 ? 1 : 0, 1);
    }
}
