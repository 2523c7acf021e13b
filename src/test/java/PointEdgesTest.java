import java.util.ArrayList;
import java.util.List;

/** Boundary cases of Terms, 1 and of promises 1 to 4, sentence by sentence. */
public final class PointEdgesTest {
    private static final Sentences S = new Sentences();
    private static final String[] NO_IDS = {"-1", "100", "min", "max"};
    private static final String[] NO_NUMBERS = {"-10001", "10001", "min", "max"};

    public static void main(String[] args) {
        S.of("The public face", "public static final int NONE = -1", "NONE");
        S.same("NONE", NearTree.NONE, -1);
        axes();
        newOnes();
        ids();
        places();
        numbersThatDoNotCount();
        unlikeIds();
        alikePlaces();
        sixty();
        putAnswers();
        dropAnswers();
        atAnswers();
        S.end();
    }

    /** x y z w with one number by one axis, 0 by the others. */
    private static String only(int axis, String number) {
        String[] place = {"0", "0", "0", "0"};
        place[axis] = number;
        return String.join(" ", place);
    }

    private static List<String> puts(int from, int to, String place) {
        List<String> rows = new ArrayList<>();
        for (int id = from; id < to; id++) {
            rows.add("put " + id + " " + place + " = " + (rows.size() + 1));
        }
        return rows;
    }

    private static void axes() {
        String words = "d axes: 1 at least, 4 at most (below that, above that: 1, 4)";
        for (int told : new int[] {Integer.MIN_VALUE, -1, 0}) {
            S.of("Promise 1", words, "below that, " + told);
            S.run(told, "count 0 = 1", "put 0 1 2 3 4 = 1", "at 0: 1 0 0 0", "inBox 0 1 1 0 1 1 = 1", "inBox 1 0 0 0 1 1 = argument");
            S.run(told, "put 0 0 5 = 1", "put 1 1 0 = 2", "put 2 2 9 = 3", "put 3 3 = 4", "walk: 2 1 0 3");
        }
        for (int d = 1; d <= 4; d++) {
            S.of("Promise 1", words, d + " itself");
            S.run(d, "count 0 = " + d, "put 0 1 2 3 4 = 1", "at 0: 1 " + (d > 1 ? "2 " : "0 ") + (d > 2 ? "3 " : "0 ") + (d > 3 ? "4" : "0"),
                "inBox " + (d - 1) + " " + d + " " + d + " 0 1 1 = 1", "inBox " + d + " 0 0 0 1 1 = argument");
        }
        for (int told : new int[] {5, Integer.MAX_VALUE}) {
            S.of("Promise 1", words, "above that, " + told);
            S.run(told, "count 0 = 4", "put 0 1 2 3 4 = 1", "at 0: 1 2 3 4", "inBox 3 4 4 0 1 1 = 1", "inBox 4 0 0 0 1 1 = argument");
        }
    }

    private static void newOnes() {
        for (int d = 1; d <= 4; d++) {
            S.of("Promise 1", "A new object", "nothing in it, of " + d);
            S.run(d, "count: " + d + " 0 0 0 0 0 0 0", "looked = 0", "list:", "walk:", "parts 0 = 0", "parts MAX = 0", "span = 0",
                "pair: state state state", "inBox 0 min max 0 min max = 0", "within MAX = 0", "nearest 100 = 0", "nearest 0 = 0",
                "drop 0 = state", "at 0 0 = state", "node 0 0 = state", "list:", "looked = 0");
        }
    }

    private static void ids() {
        String words = "POINTS have an ID (0 .. 99)";
        S.of("Terms, 1", words, "the least ID, 0");
        S.run(2, "put 0 3 4 = 1", "at 0 1 = 4", "node 0 0 = 0", "walk 0 = 0", "drop 0 = 0");
        S.of("Terms, 1", words, "the greatest ID, 99");
        S.run(2, "put 99 3 4 = 1", "at 99 1 = 4", "node 99 0 = 0", "walk 0 = 99", "drop 99 = 0");
        for (String id : NO_IDS) {
            S.of("Promise 2", "IllegalArgumentException: the ID, a number that counts", "put of the ID " + id);
            S.run(2, "put " + id + " 3 4 = argument", "walk:", "put 0 = 1", "put " + id + " 3 4 = argument", "walk: 0");
            S.of("Promise 3", "IllegalArgumentException: the ID", "drop of the ID " + id);
            S.run(2, "drop " + id + " = argument", "put 0 = 1", "drop " + id + " = argument", "walk: 0");
            S.of("Promise 4", "IllegalArgumentException: the ID, the axis", "at of the ID " + id);
            S.run(2, "at " + id + " 0 = argument", "put 0 = 1", "put 99 = 2", "at " + id + ": argument argument argument argument");
        }
    }

    private static void places() {
        for (int d = 1; d <= 4; d++) {
            for (int axis = 0; axis < d; axis++) {
                String by = " by axis " + axis + " of " + d;
                S.of("Terms, 1", "each -10000 to 10000", "the least and the greatest number" + by);
                S.run(d, "put 0 " + only(axis, "-10000") + " = 1", "put 1 " + only(axis, "10000") + " = 2",
                    "at 0 " + axis + " = -10000", "at 1 " + axis + " = 10000");
                S.of("Promise 2", "IllegalArgumentException: the ID, a number that counts", "put of a number that is none" + by);
                for (String number : NO_NUMBERS) {
                    S.run(d, "put 0 " + only(axis, number) + " = argument", "walk:", "put 0 = 1", "walk: 0");
                }
            }
            S.of("Promise 2", "IllegalArgumentException: the ID, a number that counts", "the ID and all numbers at once, of " + d);
            S.run(d, "put 100 10001 10001 10001 10001 = argument", "put -1 min min min min = argument", "walk:");
        }
    }

    private static void numbersThatDoNotCount() {
        String words = "of which the first d count (the others are 0, whatever is told)";
        for (int d = 1; d <= 3; d++) {
            for (int axis = d; axis <= 3; axis++) {
                S.of("Terms, 1", words, "a number that could not be, by axis " + axis + " of " + d);
                for (String number : NO_NUMBERS) {
                    S.run(d, "put 0 " + only(axis, number) + " = 1", "at 0: 0 0 0 0", "nearest 1 " + only(axis, number) + " = 1",
                        "distance 0 = 0", "within 0 " + only(axis, number) + " = 1", "distance 0 = 0");
                }
                S.of("Terms, 1", words, "a number that could be, by axis " + axis + " of " + d);
                S.run(d, "put 0 " + only(axis, "7") + " = 1", "put 1 " + only(axis, "-7") + " = 2", "at 0: 0 0 0 0", "at 1: 0 0 0 0",
                    "pair: 0 1 0", "parts 0 = 1", "span = 0", "nearest 2 " + only(axis, "7") + " = 2", "list: 0 1", "distance: 0 0",
                    "within 0 " + only(axis, "-7") + " = 2", "list: 0 1", "distance: 0 0", "node 1 4 = 0");
            }
        }
    }

    private static void unlikeIds() {
        String words = "Two LIVE ones have unlike IDS; places may be alike";
        S.of("Terms, 1", words, "an ID that is LIVE already, at its own place and at another one");
        S.run(2, "put 5 1 1 = 1", "put 5 1 1 = state", "put 5 2 2 = state", "at 5: 1 1 0 0", "walk: 5", "count 1 = 1");
        S.of("Promise 2", "IllegalStateException: that ID is LIVE, or 60 are", "an ID that is LIVE is refused below a DEAD NODE of it too");
        S.run(1, "put 5 1 = 1", "put 6 2 = 2", "drop 5 = 1", "put 5 3 = 2", "put 5 4 = state", "walk: -95 6 5");
        S.of("Terms, 1", words, "an ID that went comes again, at another place");
        S.run(1, "put 5 1 = 1", "put 6 2 = 2", "drop 5 = 1", "put 5 9 = 2", "at 5 0 = 9", "walk: -95 6 5", "count 3 = 1");
        S.of("Terms, 1", words, "an ID that went comes again behind all NODES are gone");
        S.run(1, "put 5 1 = 1", "drop 5 = 0", "put 5 9 = 1", "at 5 0 = 9", "walk: 5", "drop 5 = 0", "put 5 8 = 1", "at 5 0 = 8");
        S.of("Terms, 1", words, "an ID may have several DEAD NODES");
        S.run(1, "put 1 0 = 1", "put 2 -5 = 2", "put 3 5 = 3", "put 4 -9 = 4", "drop 3 = 3", "put 3 6 = 4", "drop 3 = 3",
            "put 3 4 = 4", "walk: 1 2 4 -97 3 -97", "count 3 = 2", "at 3 0 = 4");
    }

    private static void alikePlaces() {
        for (int d = 1; d <= 4; d++) {
            S.of("Terms, 1", "Two LIVE ones have unlike IDS; places may be alike", "all sixty at one place, of " + d);
            S.run(d, puts(0, 60, "-3 4 5 6"), "count 1 = 60", "count 2 = 60", "pair: 0 1 0", "parts 0 = 1", "span = 0",
                "within 0 -3 4 5 6 = 60", "listed 0 = 0", "listed 59 = 59", "listed 60 = outside", "distance 59 = 0");
        }
    }

    private static void sixty() {
        String words = "At most 60 are LIVE";
        S.of("Terms, 1", words, "the 60th comes");
        S.run(1, puts(0, 59, "1"), "put 99 = 60", "count 1 = 60");
        S.of("Terms, 1", words, "the one behind the 60th does not");
        S.run(1, puts(0, 60, "1"), "put 60 = state", "put 99 = state", "count 1 = 60", "count 2 = 60");
        S.run(4, puts(40, 100, "1"), "put 0 = state", "put 39 = state", "count 1 = 60");
        S.of("Promise 2", "IllegalStateException: that ID is LIVE, or 60 are", "both");
        S.run(1, puts(0, 60, "1"), "put 59 = state", "put 0 = state", "count 1 = 60");
        S.of("Terms, 1", words, "one goes, one comes, and no more");
        S.run(1, puts(0, 60, "1"), "drop 30 = 59", "count 2 = 60", "put 60 = 60", "put 30 = state", "put 61 = state", "count 1 = 60");
        S.run(1, puts(0, 60, "1"), "drop 30 = 59", "put 30 = 60", "put 61 = state", "count 1 = 60");
        S.of("Terms, 1", words, "all go, and sixty others come");
        List<String> drops = new ArrayList<>();
        for (int id = 0; id < 60; id++) {
            drops.add("drop " + id + " = " + (59 - id));
        }
        S.run(2, puts(0, 60, "1"), drops, "count: 2 0 0 0 0", puts(40, 100, "2 2"), "put 0 = state", "count 1 = 60");
        S.of("Terms, 1", words, "DEAD NODES are none of them: sixty LIVE ones, and as many DEAD ones as can be beside them");
        S.run(1, crowded(), "count: 1 60 119 59 7 0 0 0", "put 60 = state", "put 99 = state", "within MAX = 60", "nearest 100 = 60",
            "looked = 119", "walk 118 = 34", "walk 119 = outside", "drop 59 = 59", "count: 1 59 59 0 6 0 1 59");
    }

    /** The oldest one goes and comes again elsewhere, until one more DEAD NODE would have the root BUILT ANEW. */
    private static List<String> crowded() {
        List<String> rows = new ArrayList<>();
        for (int n = 0; n < 119; n++) {
            if (n >= 60) {
                rows.add("drop " + n % 60 + " = 59");
            }
            // Bits turned round halve the range again and again, so the tree grows evenly and never leans.
            rows.add("put " + n % 60 + " " + (Integer.reverse(n + 1) >>> 20) + " = " + Math.min(60, n + 1));
        }
        return rows;
    }

    private static void putAnswers() {
        S.of("Promise 2", "A POINT comes: how many are LIVE", "the first, and one beside DEAD NODES");
        S.run(1, "put 1 = 1", "put 2 = 2", "put 3 = 3", "drop 2 = 2", "count 2 = 3", "put 4 = 3", "count 1 = 3");
    }

    private static void dropAnswers() {
        S.of("Promise 3", "A POINT goes: how many are LIVE then", "down to the last one, 0");
        S.run(3, "put 1 = 1", "put 2 = 2", "put 3 = 3", "drop 2 = 2", "drop 1 = 1", "drop 3 = 0", "count: 3 0 0 0 0");
        String words = "IllegalStateException: it is not LIVE";
        S.of("Promise 3", words, "it never came");
        S.run(1, "drop 0 = state", "drop 99 = state", "put 1 = 1", "drop 0 = state", "drop 2 = state", "walk: 1");
        S.of("Promise 3", words, "it went, and its NODE is DEAD");
        S.run(1, "put 1 = 1", "put 2 1 = 2", "drop 1 = 1", "drop 1 = state", "walk: -99 2", "count 3 = 1", "count 6 = 0");
        S.of("Promise 3", words, "it went, and its NODE is gone");
        S.run(1, "put 1 = 1", "drop 1 = 0", "drop 1 = state", "count 6 = 1", "put 2 = 1", "drop 1 = state", "walk: 2");
        S.of("Promise 3", words, "it went, came again and goes again: the NODE that was LIVE dies");
        S.run(1, "put 1 0 = 1", "put 2 -5 = 2", "put 3 5 = 3", "drop 3 = 2", "put 3 9 = 3", "walk: 1 2 -97 3", "drop 3 = 2",
            "walk: 1 2 -97 -97", "drop 3 = state");
    }

    private static void atAnswers() {
        String axis = "Of a LIVE POINT the number by an axis (0 .. 3)";
        S.of("Promise 4", axis, "the first and the last axis");
        S.run(4, "put 8 -1 20 -300 10000", "at 8 0 = -1", "at 8 1 = 20", "at 8 2 = -300", "at 8 3 = 10000");
        for (int d = 1; d <= 3; d++) {
            S.of("Promise 4", axis, "an axis that does not count answers 0, of " + d);
            S.run(d, "put 8 1 2 3 4", "at 8 " + d + " = 0", "at 8 3 = 0");
        }
        for (int d = 1; d <= 4; d++) {
            S.of("Promise 4", "IllegalArgumentException: the ID, the axis", "axes outside, of " + d);
            S.run(d, "put 8 1 2 3 4", "at 8 -1 = argument", "at 8 4 = argument", "at 8 min = argument", "at 8 max = argument");
        }
        S.of("Promise 4", "IllegalArgumentException: the ID, the axis", "both");
        S.run(2, "at -1 -1 = argument", "at 100 4 = argument");
        String words = "IllegalStateException: it is not LIVE";
        S.of("Promise 4", words, "it never came, it went, its NODE is gone");
        S.run(2, "at 0 0 = state", "put 1 7 8", "put 2 9 9", "at 0 3 = state", "at 3 0 = state", "drop 1 = 1", "at 1: state state state state",
            "drop 2 = 0", "at 1 0 = state", "at 2 0 = state");
        S.of("Promise 4", words, "it came again: its new place");
        S.run(2, "put 1 7 8", "put 2 9 9", "drop 1", "put 1 -7 -8", "at 1: -7 -8 0 0", "drop 2", "at 1: -7 -8 0 0", "at 2 0 = state");
    }
}
