import java.util.ArrayList;
import java.util.Arrays;
import java.util.List;

/**
 * Calls told as rows of text, so that a run can be read, spread and made again.
 * <pre>
 *   put 5 1 2 = 1        the call, its numbers (those left out are 0), and the answer that is due
 *   drop 5 = state       argument, state, outside: the exception that is due, of that very class
 *   drop 5               without '=': any answer, but no exception
 *   node 5: 0 1 -1 0 0   node(5, 0), node(5, 1) and so on; likewise at, pair, count, distance
 *   walk: 5 3 -1         all NODES, and that there is none behind them; likewise list, of THE LIST
 * </pre>
 * The words min and max are an int's least and greatest number, MIN and MAX a long's.
 */
final class Rows {
    private Rows() {
    }

    /** Rows and lists of rows, one behind the other, those with ':' spread to one call each. */
    static List<String> of(Object... rows) {
        List<String> spread = new ArrayList<>();
        for (Object row : rows) {
            if (row instanceof List) {
                for (Object one : (List<?>) row) {
                    spread.addAll(spread((String) one));
                }
            } else {
                spread.addAll(spread((String) row));
            }
        }
        return spread;
    }

    private static List<String> spread(String row) {
        int colon = row.indexOf(':');
        if (colon < 0) {
            return List.of(row);
        }
        String call = row.substring(0, colon).trim();
        String rest = row.substring(colon + 1).trim();
        String[] dues = rest.isEmpty() ? new String[0] : rest.split(" +");
        List<String> rows = new ArrayList<>();
        String each = call.equals("list") ? "listed" : call;
        for (int i = 0; i < dues.length; i++) {
            rows.add(each + " " + i + " = " + dues[i]);
        }
        if (call.equals("list")) {
            rows.add("listed " + dues.length + " = outside");
            rows.add("distance " + dues.length + " = outside");
        }
        if (call.equals("walk")) {
            rows.add("walk " + dues.length + " = outside");
            rows.add("count 2 = " + dues.length);
        }
        return rows;
    }

    static String callOf(String row) {
        int is = row.indexOf('=');
        return (is < 0 ? row : row.substring(0, is)).trim();
    }

    /** null where any answer is as due. */
    static String dueOf(String row) {
        int is = row.indexOf('=');
        return is < 0 ? null : row.substring(is + 1).trim();
    }

    static boolean isNumber(String answer) {
        return answer.matches("-?[0-9]+");
    }

    static String answer(NearTree tree, String call) {
        String[] words = call.split(" +");
        long[] n = new long[7];
        for (int i = 1; i < words.length; i++) {
            n[i] = number(words[i]);
        }
        try {
            return String.valueOf(answer(tree, words[0], n));
        } catch (RuntimeException | StackOverflowError e) {
            return word(e.getClass());
        }
    }

    private static String word(Class<?> thrown) {
        if (thrown == IllegalArgumentException.class) {
            return "argument";
        }
        if (thrown == IllegalStateException.class) {
            return "state";
        }
        return thrown == IndexOutOfBoundsException.class ? "outside" : thrown.getName();
    }

    private static long number(String word) {
        switch (word) {
            case "min": return Integer.MIN_VALUE;
            case "max": return Integer.MAX_VALUE;
            case "MIN": return Long.MIN_VALUE;
            case "MAX": return Long.MAX_VALUE;
            default: return Long.parseLong(word);
        }
    }

    private static long answer(NearTree t, String name, long[] c) {
        int[] n = Arrays.stream(c).mapToInt(l -> (int) l).toArray();
        switch (name) {
            case "put": return t.put(n[1], n[2], n[3], n[4], n[5]);
            case "drop": return t.drop(n[1]);
            case "at": return t.at(n[1], n[2]);
            case "nearest": return t.nearest(n[1], n[2], n[3], n[4], n[5]);
            case "within": return t.within(c[1], n[2], n[3], n[4], n[5]);
            case "listed": return t.listed(n[1]);
            case "distance": return t.distance(n[1]);
            case "looked": return t.looked();
            case "inBox": return t.inBox(n[1], n[2], n[3], n[4], n[5], n[6]);
            case "pair": return t.pair(n[1]);
            case "parts": return t.parts(c[1]);
            case "span": return t.span();
            case "node": return t.node(n[1], n[2]);
            case "walk": return t.walk(n[1]);
            case "count": return t.count(n[1]);
            default: throw new AssertionError("no such call: " + name);
        }
    }
}
