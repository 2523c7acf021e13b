import java.util.ArrayList;
import java.util.List;

/** Boundary cases of Terms, 3 and of promises 5 to 10, sentence by sentence. */
public final class SearchEdgesTest {
    private static final Sentences S = new Sentences();
    private static final String[] NO_NUMBERS = {"-10001", "10001", "min", "max"};
    private static final String COMES_IN = "its POINT, if it is LIVE, comes into the list, if that has fewer than k, "
        + "or by that order the last one is behind it (and goes then, if there were k)";
    private static final String FIRST_SIDE = "Then its left, if p's number by its AXIS is below its POINT's, else its right";
    private static final String OTHER_SIDE = "then the other side, unless the list has k POINTS and the square of p's number less its POINT's "
        + "by its AXIS is more than the DISTANCE of the last one";
    private static final String K_0 = "(with k 0 the other side is never LOOKED AT)";

    public static void main(String[] args) {
        listOfSearch();
        firstSide();
        otherSide();
        deadOnes();
        distances();
        nearestAnswers();
        nearestRefuses();
        withinAnswers();
        withinRefuses();
        listPlaces();
        listStays();
        looked();
        inBoxAnswers();
        inBoxRefuses();
        S.end();
    }

    /** 0, 10, 20, 30 with IDS 0 to 3 by x: 20 is the root, left of it 10, left of that 0, right of it 30. */
    private static List<String> four() {
        return Rows.of("put 0 0", "put 1 10", "put 2 20", "put 3 30", "walk: 2 1 0 3");
    }

    private static String only(int axis, String number) {
        String[] place = {"0", "0", "0", "0"};
        place[axis] = number;
        return String.join(" ", place);
    }

    private static void listOfSearch() {
        S.of("Terms, 3", "ordered by DISTANCES to p, then IDS, of k POINTS at most", "alike DISTANCES by IDS, at unlike places");
        S.run(2, "put 40 3 4", "put 7 -3 4", "put 23 4 -3", "put 99 -5 0", "put 0 0 5", "nearest 100 = 5", "list: 0 7 23 40 99", "distance: 25 25 25 25 25");
        S.of("Terms, 3", COMES_IN, "fewer than k: it comes, and none goes");
        S.run(1, "put 1 1", "put 2 2", "nearest 2 = 2", "list: 1 2", "distance: 1 4");
        S.of("Terms, 3", COMES_IN, "k are there, the last one is farther: it goes");
        S.run(1, "put 1 9", "put 2 1", "nearest 1 = 1", "list: 2", "distance: 1");
        S.of("Terms, 3", COMES_IN, "k are there, as far as the last one, lesser ID: that goes");
        S.run(1, "put 5 1", "put 4 -1", "nearest 1 = 1", "list: 4", "looked = 2");
        S.of("Terms, 3", COMES_IN, "k are there, as far as the last one, greater ID: it does not come");
        S.run(1, "put 5 1", "put 6 -1", "nearest 1 = 1", "list: 5", "looked = 2");
        S.of("Terms, 3", COMES_IN, "it comes in ahead of all, between two, and last");
        S.run(1, "put 1 20", "put 2 10", "put 3 30", "nearest 3 = 3", "list: 2 1 3", "nearest 2 = 2", "list: 2 1", "nearest 2 40 = 2", "list: 3 1",
            "nearest 2 19 = 2", "list: 1 2");
    }

    private static void firstSide() {
        S.of("Terms, 3", FIRST_SIDE, "below: left, shown by k 0, which goes down one way alone");
        S.run(1, "put 5 0", "put 6 -10", "nearest 0 -1 = 0", "looked = 2", "nearest 0 -10000 = 0", "looked = 2");
        S.of("Terms, 3", FIRST_SIDE, "alike: right");
        S.run(1, "put 5 0", "put 6 -10", "nearest 0 0 = 0", "looked = 1");
        S.run(1, "put 5 0", "put 6 10", "nearest 0 0 = 0", "looked = 2");
        S.run(1, four(), "nearest 0 9", "looked = 3", "nearest 0 10", "looked = 2", "nearest 0 19", "looked = 2", "nearest 0 20", "looked = 2");
        S.of("Terms, 3", FIRST_SIDE, "alike: right, though the POINTS with lesser IDS of that number are left");
        S.run(1, "put 5 0", "put 4 0", "nearest 0 0", "looked = 1", "nearest 0 -1", "looked = 2");
        S.of("Terms, 3", FIRST_SIDE, "above: right");
        S.run(1, "put 5 0", "put 6 10", "nearest 0 1", "looked = 2", "nearest 0 10000", "looked = 2", "nearest 0 -1", "looked = 1");
        S.of("Terms, 3", FIRST_SIDE, "by the AXIS of each DEPTH, and by x again");
        List<String> two = Rows.of("put 0 0 0", "put 1 -1 0", "put 2 5 5", "put 3 9 4", "put 4 -2 1", "put 5 7 3", "walk: 0 1 4 2 3 5");
        S.run(2, two, "nearest 0 0 4", "looked = 4", "nearest 0 0 5", "looked = 2", "nearest 0 9 4", "looked = 3", "nearest 0 8 4", "looked = 4",
            "nearest 0 -1 0", "looked = 3", "nearest 0 -1 -1", "looked = 2");
        for (int d = 1; d <= 4; d++) {
            S.of("Terms, 3", FIRST_SIDE, "the root goes by x whatever the others are, of " + d);
            S.run(d, "put 5 0 0 0 0", "put 6 -10 0 0 0", "nearest 0 0 -1 -1 -1", "looked = 1", "nearest 0 -1 1 1 1", "looked = 2");
        }
    }

    private static void otherSide() {
        S.of("Terms, 3", OTHER_SIDE, "the square is as much as the DISTANCE: it is LOOKED AT");
        S.run(1, four(), "nearest 1 15 = 1", "looked = 4", "list: 1");
        S.run(1, "put 9 10", "put 3 10", "put 8 20", "walk: 9 3 8", "nearest 1 15 = 1", "list: 3", "distance: 25", "looked = 3");
        S.run(1, "put 3 10", "put 9 10", "put 2 0", "walk: 3 2 9", "nearest 1 5 = 1", "list: 2", "distance: 25", "looked = 3");
        S.of("Terms, 3", OTHER_SIDE, "the square is one more: it is not");
        S.run(2, "put 0 0 0", "put 1 -9 0", "put 2 5 2", "nearest 1 3 0 = 1", "list: 2", "distance: 8", "looked = 2");
        S.run(2, "put 0 0 0", "put 1 9 0", "put 2 -5 2", "nearest 1 -3 0 = 1", "list: 2", "distance: 8", "looked = 2");
        S.run(2, "put 9 0 0", "put 1 -9 0", "put 2 3 3", "nearest 1 3 0 = 1", "list: 2", "distance: 9", "looked = 3");
        S.of("Terms, 3", OTHER_SIDE, "just below, at and above the border, by one axis");
        S.run(1, four(), "nearest 1 14 = 1", "list: 1", "looked = 3", "nearest 1 15 = 1", "looked = 4", "nearest 1 16 = 1", "list: 2", "looked = 3");
        S.of("Terms, 3", OTHER_SIDE, "of the last one, not of the first");
        S.run(1, four(), "nearest 2 12 = 2", "list: 1 2", "distance: 4 64", "looked = 4", "nearest 2 9 = 2", "list: 1 0", "looked = 3");
        S.of("Terms, 3", OTHER_SIDE, "the list has fewer than k: it is, however far");
        S.run(1, "put 0 0", "put 1 -10000", "put 2 10000", "nearest 3 10000 = 3", "looked = 3", "nearest 2 10000 = 2", "list: 2 0", "looked = 3",
            "nearest 1 10000 = 1", "looked = 2", "nearest 100 -10000 = 3", "looked = 3");
        S.of("Terms, 3", OTHER_SIDE, "the other side is the left or the right one");
        S.run(1, "put 0 0", "put 1 -1", "put 2 1", "nearest 2 -1 = 2", "list: 1 0", "looked = 3", "nearest 2 1 = 2", "list: 2 0", "looked = 3");
        S.of("Terms, 3", OTHER_SIDE, "by the AXIS of the NODE, y below the root");
        S.run(2, "put 2 5 10", "put 9 -3 50", "put 1 0 0", "put 3 9 -20", "walk: 2 9 1 3", "nearest 1 -3 45 = 1", "list: 9", "looked = 3",
            "nearest 1 -3 60 = 1", "list: 9", "looked = 4", "nearest 1 9 -20 = 1", "list: 3", "looked = 2");
        S.of("Terms, 3", K_0, "one way down alone");
        S.run(1, four(), "nearest 0 0 = 0", "looked = 3", "nearest 0 20 = 0", "looked = 2", "nearest 0 30 = 0", "looked = 2", "nearest 0 15 = 0", "looked = 2");
        S.of("Terms, 3", K_0, "though its number is the root's");
        S.run(1, "put 0 0", "put 1 -1", "put 2 1", "nearest 0 0 = 0", "looked = 2");
    }

    private static void deadOnes() {
        S.of("Terms, 3", COMES_IN, "a DEAD one is LOOKED AT and does not come");
        S.run(1, four(), "drop 1", "nearest 1 9 = 1", "list: 0", "looked = 3", "nearest 0 9 = 0", "looked = 3");
        S.of("Terms, 3", OTHER_SIDE, "DEAD ones do not fill the list");
        S.run(1, four(), "drop 2", "drop 3", "nearest 1 31 = 1", "list: 1", "looked = 4", "nearest 2 31 = 2", "list: 1 0", "looked = 4");
        S.of("Terms, 3", OTHER_SIDE, "a DEAD NODE splits as a LIVE one does");
        S.run(1, four(), "drop 2", "nearest 1 31 = 1", "list: 3", "looked = 2", "nearest 1 0 = 1", "list: 0", "looked = 3");
        S.of("Terms, 3", COMES_IN, "one that went and came again is in the list once");
        S.run(1, four(), "drop 1", "put 1 11", "nearest 100 10 = 4", "list: 1 0 2 3", "distance: 1 100 100 400", "looked = 5");
    }

    private static void distances() {
        String words = "The DISTANCE of two places is the sum of the squares of what lies between them by the axes";
        for (int d = 1; d <= 4; d++) {
            S.of("Terms, 1", words, "the least and the greatest one, of " + d);
            S.run(d, "put 0 10000 10000 10000 10000", "nearest 1 -10000 -10000 -10000 -10000", "distance: " + 400000000L * d,
                "nearest 1 10000 10000 10000 10000", "distance: 0", "within " + (400000000L * d - 1) + " -10000 -10000 -10000 -10000 = 0",
                "within " + 400000000L * d + " -10000 -10000 -10000 -10000 = 1", "distance: " + 400000000L * d);
            for (int axis = 0; axis < d; axis++) {
                S.of("Terms, 1", words, "what lies between by axis " + axis + " alone, of " + d);
                S.run(d, "put 0 " + only(axis, "-3") + "", "nearest 1 " + only(axis, "4"), "distance: 49", "within 49 " + only(axis, "4") + " = 1",
                    "distance: 49", "put 1 " + only(axis, "8"), "pair 2 = 121");
            }
        }
    }

    private static void nearestAnswers() {
        String words = "A SEARCH for the k (0 .. 100) nearest ones of a place: how many came";
        S.of("Promise 5", words, "k 0: none, and THE LIST is empty then");
        S.run(1, four(), "nearest 2 = 2", "list: 0 1", "nearest 0 = 0", "list:");
        S.of("Promise 5", words, "k 1");
        S.run(1, four(), "nearest 1 -10000 = 1", "list: 0", "nearest 1 10000 = 1", "list: 3");
        S.of("Promise 5", words, "k as many as are LIVE, one less, one more");
        S.run(1, four(), "nearest 4 = 4", "list: 0 1 2 3", "nearest 3 = 3", "list: 0 1 2", "nearest 5 = 4", "list: 0 1 2 3");
        S.of("Promise 5", words, "k 100, of few and of sixty");
        S.run(1, four(), "nearest 100 = 4", "list: 0 1 2 3");
        List<String> sixty = new ArrayList<>();
        for (int id = 40; id < 100; id++) {
            sixty.add("put " + id + " " + (99 - id));
        }
        S.run(1, sixty, "nearest 100 = 60", "looked = 60", "listed 0 = 99", "listed 59 = 40", "listed 60 = outside", "distance 59 = 3481",
            "nearest 60 = 60", "nearest 59 = 59", "listed 58 = 41", "listed 59 = outside", "nearest 61 = 60");
        S.of("Promise 5", words, "of a tree without NODES");
        S.run(2, "nearest 0 = 0", "nearest 1 = 0", "nearest 100 = 0", "list:", "looked = 0", "put 1", "drop 1", "nearest 1 = 0", "list:", "looked = 0");
        S.of("Promise 5", "(THE LIST is these from now on)", "a shorter one, a longer one, and one behind a within");
        S.run(1, four(), "nearest 3 = 3", "list: 0 1 2", "nearest 1 30 = 1", "list: 3", "distance: 0", "nearest 4 30 = 4", "list: 3 2 1 0",
            "within 0 = 1", "list: 0", "nearest 2 30 = 2", "list: 3 2", "distance: 0 100");
        S.of("Promise 5", "IllegalArgumentException: k, a number that counts", "places at the rim are none of it");
        S.run(4, "put 1", "nearest 1 -10000 -10000 -10000 -10000 = 1", "nearest 1 10000 10000 10000 10000 = 1", "distance: 400000000");
    }

    private static void nearestRefuses() {
        String words = "IllegalArgumentException: k, a number that counts";
        for (String k : new String[] {"-1", "101", "min", "max"}) {
            S.of("Promise 5", words, "k " + k + ", and THE LIST and looked stay");
            S.run(2, "nearest " + k + " = argument", "looked = 0", "put 1 3 4", "put 2 6 8", "nearest 1 = 1", "nearest " + k + " 6 8 = argument",
                "list: 1", "distance: 25", "looked = 2");
        }
        for (int d = 1; d <= 4; d++) {
            for (int axis = 0; axis < 4; axis++) {
                boolean counts = axis < d;
                S.of("Promise 5", words, "a number by axis " + axis + " of " + d + (counts ? "" : ", which does not count: none of it"));
                for (String number : NO_NUMBERS) {
                    String place = only(axis, number);
                    S.run(d, "put 1", "put 2 1", "nearest 2 = 2", "nearest 1 " + place + (counts ? " = argument" : " = 1"),
                        counts ? "list: 1 2" : "list: 1", "nearest 0 " + place + (counts ? " = argument" : " = 0"));
                }
            }
        }
        S.of("Promise 5", words, "k and all numbers at once");
        S.run(4, "nearest -1 10001 10001 10001 10001 = argument", "nearest 101 min max min max = argument", "list:", "looked = 0");
    }

    private static void withinAnswers() {
        String words = "THE LIST becomes all LIVE POINTS whose DISTANCE to a place is most (0 or more) or less, by DISTANCES, then IDS: how many";
        S.of("Promise 6", words, "most 0: those at the very place");
        S.run(2, "put 9 3 3", "put 4 3 3", "put 5 3 4", "within 0 3 3 = 2", "list: 4 9", "distance: 0 0", "within 0 4 4 = 0", "list:");
        S.of("Promise 6", words, "just most, and one less");
        S.run(2, "put 1 3 4", "within 25 = 1", "list: 1", "within 24 = 0", "list:", "within 26 = 1");
        S.of("Promise 6", words, "most as large as a long can be");
        S.run(4, "put 1 10000 10000 10000 10000", "put 2", "within MAX -10000 -10000 -10000 -10000 = 2", "list: 2 1", "distance: 400000000 1600000000");
        S.of("Promise 6", words, "most beyond an int");
        S.run(1, "put 1 0", "put 2 100", "within 2147483647 = 2", "within 2147483648 = 2", "within 4294967296 = 2", "within 4294967297 = 2", "list: 1 2");
        S.of("Promise 6", words, "by DISTANCES, then IDS, whatever the order in which they came");
        S.run(1, "put 9 1", "put 3 -1", "put 7 0", "put 1 2", "put 8 -2", "within 4 = 5", "list: 7 3 9 1 8", "distance: 0 1 1 4 4", "within 3 = 3", "list: 7 3 9");
        S.of("Promise 6", words, "LIVE ones alone");
        S.run(1, four(), "drop 2", "within MAX = 3", "list: 0 1 3", "drop 0", "within MAX = 2", "list: 1 3");
        S.of("Promise 6", words, "one that went and came again: at its new place, once");
        S.run(1, four(), "drop 2", "put 2 -1", "within 1 = 2", "list: 0 2", "within MAX 20 = 4", "list: 1 3 0 2", "distance: 100 100 400 441");
        S.of("Promise 6", words, "of a tree without NODES");
        S.run(3, "within 0 = 0", "within MAX = 0", "list:", "put 1", "drop 1", "within MAX = 0", "list:");
        S.of("Promise 6", words, "more than the k of the search ahead of it, and fewer");
        S.run(1, four(), "nearest 1 = 1", "within MAX = 4", "list: 0 1 2 3", "within 100 = 2", "list: 0 1", "nearest 0 = 0", "within MAX = 4", "list: 0 1 2 3");
        S.of("Promise 6", words, "all sixty");
        List<String> sixty = new ArrayList<>();
        for (int id = 40; id < 100; id++) {
            sixty.add("put " + id + " " + (99 - id));
        }
        S.run(1, sixty, "within MAX = 60", "listed 0 = 99", "listed 59 = 40", "distance 59 = 3481", "listed 60 = outside", "within 3480 = 59", "listed 59 = outside");
    }

    private static void withinRefuses() {
        String words = "IllegalArgumentException: most, a number that counts";
        for (String most : new String[] {"-1", "-25", "-2147483649", "MIN"}) {
            S.of("Promise 6", words, "most " + most + ", and THE LIST stays");
            S.run(2, "within " + most + " = argument", "put 1 3 4", "put 2 6 8", "within 25 = 1", "within " + most + " 6 8 = argument", "list: 1", "distance: 25");
        }
        for (int d = 1; d <= 4; d++) {
            for (int axis = 0; axis < 4; axis++) {
                boolean counts = axis < d;
                S.of("Promise 6", words, "a number by axis " + axis + " of " + d + (counts ? "" : ", which does not count: none of it"));
                for (String number : NO_NUMBERS) {
                    S.run(d, "put 1", "put 2 1", "within 1 = 2", "within 0 " + only(axis, number) + (counts ? " = argument" : " = 1"),
                        counts ? "list: 1 2" : "list: 1");
                }
            }
        }
        S.of("Promise 6", words, "places at the rim are none of it");
        S.run(4, "put 1", "within MAX -10000 -10000 -10000 -10000 = 1", "within MAX 10000 10000 10000 10000 = 1");
        S.of("Promise 6", words, "most and all numbers at once");
        S.run(4, "within -1 10001 10001 10001 10001 = argument", "within MIN min max min max = argument", "list:");
    }

    private static void listPlaces() {
        for (String call : new String[] {"listed", "distance"}) {
            String where = call.equals("listed") ? "Promise 7" : "Promise 8";
            String words = call.equals("listed") ? "The ID of THE LIST's POINT at place i. IndexOutOfBoundsException"
                : "Its DISTANCE, as it was found. IndexOutOfBoundsException";
            String first = call.equals("listed") ? " 0 = 0" : " 0 = 1";
            String last = call.equals("listed") ? " 3 = 3" : " 3 = 961";
            List<String> all = Rows.of(four(), "nearest 4 -1 = 4");
            S.of(where, words, "its first and its last place");
            S.run(1, all, call + first, call + last);
            S.of(where, words, "below the first and behind the last one");
            S.run(1, all, call + " -1 = outside", call + " 4 = outside", call + " min = outside", call + " max = outside", call + " 60 = outside",
                call + " 99 = outside", call + " 100 = outside");
            S.of(where, words, "THE LIST ahead of any search");
            S.run(1, call + " 0 = outside", call + " -1 = outside", four(), call + " 0 = outside", call + " 1 = outside");
            S.of(where, words, "THE LIST with nothing in it, of k 0 and of a ball without any");
            S.run(1, all, "nearest 0 = 0", call + " 0 = outside", call + " 3 = outside", "nearest 4 = 4", "within 0 5 = 0", call + " 0 = outside",
                call + " 3 = outside");
            S.of(where, words, "places of a longer one ahead of it");
            S.run(1, all, "nearest 1 -1 = 1", call + first, call + " 1 = outside", call + " 3 = outside", "within MAX = 4", "within 0 = 1",
                call + " 1 = outside");
        }
    }

    private static void listStays() {
        S.of("Promise 7", "(A POINT may have gone since.)", "one went, all went, and its NODE is gone");
        S.run(1, four(), "nearest 3 = 3", "drop 1", "list: 0 1 2", "drop 0", "drop 2", "drop 3", "walk:", "list: 0 1 2");
        S.run(1, four(), "within 400 = 3", "drop 1", "list: 0 1 2", "drop 0", "drop 2", "drop 3", "walk:", "list: 0 1 2");
        S.of("Promise 7", "(A POINT may have gone since.)", "others that come do not come in");
        S.run(1, four(), "nearest 2 = 2", "put 4 0", "put 5 1", "list: 0 1");
        S.of("Promise 8", "Its DISTANCE, as it was found", "its POINT went, and came again elsewhere");
        S.run(1, four(), "nearest 2 = 2", "drop 1", "distance: 0 100", "put 1 500", "distance: 0 100", "list: 0 1");
        S.run(1, four(), "within 100 = 2", "drop 1", "distance: 0 100", "put 1 500", "distance: 0 100", "list: 0 1");
        S.of("Promise 8", "Its DISTANCE, as it was found", "the tree is BUILT ANEW");
        S.run(1, four(), "nearest 4 15 = 4", "list: 1 2 0 3", "put 4 40", "put 5 50", "put 6 60", "drop 4", "drop 5", "drop 6", "list: 1 2 0 3",
            "distance: 25 25 225 225");
    }

    private static void looked() {
        String words = "How many NODES the latest nearest() LOOKED AT; 0 before one";
        S.of("Promise 9", words, "0 before one, of a new object and of one with POINTS");
        S.run(1, "looked = 0", four(), "looked = 0", "within MAX = 4", "looked = 0", "drop 1", "looked = 0");
        S.of("Promise 9", words, "the latest one alone, no sum");
        S.run(1, four(), "nearest 4", "looked = 4", "looked = 4", "nearest 1 30", "looked = 2", "nearest 4", "looked = 4");
        S.of("Promise 9", words, "no other call is one");
        S.run(1, four(), "nearest 1 30", "looked = 2", "within MAX", "looked = 2", "put 9 9", "looked = 2", "drop 9", "looked = 2", "pair 0", "parts 0", "span",
            "inBox 0 0 9 0 0 9", "node 1 0", "walk 0", "count 2", "listed 0", "looked = 2");
        S.of("Promise 9", words, "one that is refused is none");
        S.run(1, four(), "nearest 1 30", "nearest -1 = argument", "looked = 2", "nearest 101 = argument", "looked = 2", "nearest 1 10001 = argument", "looked = 2");
        S.of("Promise 9", words, "0 of a tree without NODES, behind another one too");
        S.run(1, "nearest 5", "looked = 0", "put 1", "nearest 5", "looked = 1", "drop 1", "looked = 1", "nearest 5", "looked = 0");
        S.of("Promise 9", words, "one NODE, k 0 too");
        S.run(1, "put 1", "nearest 0", "looked = 1", "nearest 1", "looked = 1", "nearest 100", "looked = 1");
        S.of("Promise 9", words, "DEAD ones too");
        S.run(1, four(), "drop 0", "drop 1", "nearest 2 = 2", "looked = 4");
    }

    private static void inBoxAnswers() {
        String words = "How many LIVE POINTS have numbers from low to high by an axis (0 .. 3, that counts) and from low2 to high2 by another one or the same";
        S.of("Promise 10", words, "low and high themselves, and one beyond each");
        S.run(2, "put 1 5 7", "inBox 0 5 5 1 7 7 = 1", "inBox 0 5 9 1 7 9 = 1", "inBox 0 0 5 1 0 7 = 1", "inBox 0 6 9 1 7 7 = 0", "inBox 0 0 4 1 7 7 = 0",
            "inBox 0 5 5 1 8 9 = 0", "inBox 0 5 5 1 0 6 = 0");
        S.of("Promise 10", words, "low above high: none");
        S.run(2, "put 1 5 7", "inBox 0 6 5 1 7 7 = 0", "inBox 0 5 4 1 7 7 = 0", "inBox 0 5 5 1 8 7 = 0", "inBox 0 5 5 1 7 6 = 0", "inBox 0 max min 1 7 7 = 0",
            "inBox 0 5 5 1 max min = 0", "inBox 0 10 0 0 0 10 = 0");
        S.of("Promise 10", words, "low and high beyond what a number can be");
        S.run(2, "put 1 -10000 10000", "put 2 10000 -10000", "inBox 0 min max 1 min max = 2", "inBox 0 -10001 -10000 1 10000 10001 = 1",
            "inBox 0 min -10001 1 min max = 0", "inBox 0 min max 1 10001 max = 0", "inBox 0 10000 max 1 min -10000 = 1");
        S.of("Promise 10", words, "the same axis: both hold");
        S.run(1, four(), "inBox 0 0 20 0 10 30 = 2", "inBox 0 0 10 0 20 30 = 0", "inBox 0 10 10 0 10 10 = 1", "inBox 0 0 30 0 0 30 = 4");
        S.of("Promise 10", words, "the two axes in either order");
        S.run(2, "put 1 1 2", "put 2 2 1", "inBox 0 1 1 1 2 2 = 1", "inBox 1 2 2 0 1 1 = 1", "inBox 1 1 1 0 1 1 = 0");
        S.of("Promise 10", words, "LIVE ones alone, and of a tree without NODES");
        S.run(1, "inBox 0 min max 0 min max = 0", four(), "inBox 0 0 30 0 0 30 = 4", "drop 2", "inBox 0 0 30 0 0 30 = 3", "drop 0", "drop 1", "drop 3",
            "inBox 0 min max 0 min max = 0");
        S.of("Promise 10", words, "one that went and came again: at its new place, once");
        S.run(1, four(), "drop 2", "put 2 5", "inBox 0 20 20 0 20 20 = 0", "inBox 0 5 5 0 5 5 = 1", "inBox 0 0 30 0 0 30 = 4");
        S.of("Promise 10", words, "all sixty");
        List<String> sixty = new ArrayList<>();
        for (int id = 40; id < 100; id++) {
            sixty.add("put " + id + " " + id);
        }
        S.run(1, sixty, "inBox 0 40 99 0 min max = 60", "inBox 0 41 99 0 min 98 = 58");
    }

    private static void inBoxRefuses() {
        String words = "IllegalArgumentException: an axis";
        for (int d = 1; d <= 4; d++) {
            S.of("Promise 10", "(0 .. 3, that counts)", "the last axis that counts, of " + d);
            S.run(d, "put 1 1 1 1 1", "inBox " + (d - 1) + " 1 1 " + (d - 1) + " 1 1 = 1", "inBox " + (d - 1) + " 0 0 0 1 1 = 0");
            List<String> axes = new ArrayList<>(List.of("-1", "min", "max"));
            for (int axis = d; axis <= 4; axis++) {
                axes.add(String.valueOf(axis));
            }
            for (String axis : axes) {
                S.of("Promise 10", words, "the first one, " + axis + " of " + d);
                S.run(d, "inBox " + axis + " 0 0 0 0 0 = argument", "put 1", "inBox " + axis + " 0 0 0 0 0 = argument");
                S.of("Promise 10", words, "the second one, " + axis + " of " + d + ", though nothing is in the box");
                S.run(d, "inBox 0 0 0 " + axis + " 0 0 = argument", "put 1", "inBox 0 0 0 " + axis + " 0 0 = argument",
                    "inBox 0 1 0 " + axis + " 0 0 = argument");
            }
            S.of("Promise 10", words, "both, of " + d);
            S.run(d, "inBox -1 0 0 -1 0 0 = argument", "inBox 4 0 0 4 0 0 = argument");
        }
    }
}
