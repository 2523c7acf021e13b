import java.util.List;

/**
 * Tests by the document's sentences: one is told, then runs of calls that would go wrong if it were broken, each on
 * a new object. What goes wrong is printed with its sentence.
 */
final class Sentences {
    /** What later calls answer is free, so no test may lean on it. */
    static final int MOST_CALLS = 512;
    private static final int MOST_TOLD = 5;

    private int sentences;
    private int broken;
    private int wrongOfThis;
    private int runsOfThis;
    private String sentence;

    /** Words that stand in the document, and which of their cases is meant. */
    void of(String where, String words, String which) {
        close();
        sentence = where + ", '" + words + "': " + which;
    }

    void run(int axes, Object... rows) {
        runsOfThis++;
        NearTree tree = new NearTree(axes);
        int calls = 0;
        for (String row : Rows.of(rows)) {
            calls++;
            String due = Rows.dueOf(row);
            String got = Rows.answer(tree, Rows.callOf(row));
            if (due == null ? !Rows.isNumber(got) : !got.equals(due)) {
                wrong("NearTree(" + axes + "), call " + calls + ", " + row + ": answered " + got);
                return;
            }
        }
        if (calls > MOST_CALLS) {
            wrong("the test itself has " + calls + " calls on one object");
        }
    }

    void same(String what, Object got, Object due) {
        runsOfThis++;
        if (!got.equals(due)) {
            wrong(what + ": " + got + ", due is " + due);
        }
    }

    private void wrong(String text) {
        wrongOfThis++;
        if (wrongOfThis == 1) {
            System.out.println("BROKEN: " + sentence);
        }
        if (wrongOfThis <= MOST_TOLD) {
            System.out.println("  " + text);
        }
    }

    private void close() {
        if (sentence == null) {
            return;
        }
        sentences++;
        if (runsOfThis == 0) {
            wrong("no run tests it");
        }
        broken += wrongOfThis > 0 ? 1 : 0;
        wrongOfThis = 0;
        runsOfThis = 0;
    }

    void end() {
        close();
        System.out.println(sentences + " sentences, " + broken + " broken");
        if (broken != 0 || sentences == 0) {
            System.exit(1);
        }
    }

    static String joined(List<String> words) {
        return String.join(" ", words);
    }
}
