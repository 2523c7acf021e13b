import java.util.ArrayList;
import java.util.Arrays;
import java.util.Comparator;
import java.util.List;

/** Boundary cases of Terms, 2 and of promises 14 to 16, sentence by sentence. */
public final class TreeEdgesTest {
    private static final Sentences S = new Sentences();
    private static final String COMES = "A POINT that comes goes down from the root, left where it is LESS, else right, "
        + "and becomes a NODE where there is none";
    private static final String LEANS = "the first one whose left or right SIZE (0 without) times 3 is more than its own SIZE times 2 "
        + "is BUILT ANEW (if there is one)";
    private static final String GOES = "If then DEAD NODES times 2 are more than all NODES, the root is BUILT ANEW";
    private static final String ANEW = "the one at place m / 2 (down; from 0 on) is the NODE";

    public static void main(String[] args) {
        axisOfDepth();
        lessByNumberThenId();
        comes();
        sizes();
        leansAtTheBorder();
        leansFromTheRootOn();
        leansOnItsWayOnly();
        leansWithDeadOnes();
        goes();
        goesAtEverySize();
        builtAnewOfFew();
        builtAnewByItsOwnAxis();
        builtAnewOfMany();
        builtAnewOfAll();
        nodeOfRoot();
        nodeBelow();
        nodeRefuses();
        walks();
        counts();
        S.end();
    }

    /** 0 at 0, then the others as told, IDS from 0 on, by x alone. */
    private static List<String> line(int... numbers) {
        List<String> rows = new ArrayList<>();
        for (int id = 0; id < numbers.length; id++) {
            rows.add("put " + id + " " + numbers[id] + " = " + (id + 1));
        }
        return rows;
    }

    private static void axisOfDepth() {
        String words = "A NODE has a DEPTH (0 of the root) and an AXIS: DEPTH modulo d";
        S.of("Terms, 2", words, "1 axis: always x");
        S.run(1, "put 0 0 0 0 0", "put 1 -1 9 9 9", "put 2 1 -9 -9 -9", "put 3 2 -9 -9 -9", "walk: 0 1 2 3", "node 3: 2 1 2 0 0");
        S.of("Terms, 2", words, "2 axes: x, y, and x again");
        S.run(2, "put 0 0 0", "put 1 -1 9", "put 2 5 5", "put 3 9 4", "node 3: 2 1 2 0 1", "put 4 1 6", "node 4: 2 1 2 0 0",
            "put 5 0 9", "node 5: 3 1 4 0 1", "put 6 -1 0", "put 7 1 7", "node 7: 3 1 4 0 0");
        S.of("Terms, 2", words, "3 axes: x, y, z, and x again");
        List<String> three = Rows.of("put 0 0 0 0", "put 1 -1 0 0", "put 2 5 5 5", "put 3 9 6 5", "node 3: 2 1 2 0 0", "put 4 9 4 4",
            "node 4: 2 1 2 0 1", "put 5 1 9 4", "node 5: 3 1 3 0 1", "put 6 -2 0 0");
        S.run(3, three, "put 7 1 9 3", "node 7: 4 1 5 0 0");
        S.run(3, three, "put 8 0 9 4", "node 8: 4 1 5 0 1");
        S.of("Terms, 2", words, "4 axes: x, y, z, w, and x again");
        List<String> four = Rows.of("put 0 0 0 0 0", "put 1 -1 0 0 0", "put 2 5 5 5 5", "put 6 -2 -1 0 0", "put 8 -1 9 0 0", "put 7 9 4 0 0",
            "put 3 9 6 5 5", "put 12 9 4 1 0", "put 9 9 9 6 0", "put 4 1 9 4 1", "put 5 4 9 3 2", "node 7: 2 2 2 0 1", "node 3: 2 4 2 0 0",
            "node 9: 3 1 3 0 0", "node 4: 3 2 3 0 1", "node 5: 4 1 4 0 0");
        S.run(4, four, "put 10 3 9 4 2", "node 10: 5 1 5 0 1", "count 5 = 0");
        S.run(4, four, "put 11 5 9 1 1", "node 11: 5 1 5 0 0", "count 5 = 0");
    }

    private static void lessByNumberThenId() {
        String words = "By an AXIS a POINT is LESS than another one, if its number there is, or both are alike and its ID is less";
        for (int d = 1; d <= 4; d++) {
            S.of("Terms, 2", words, "alike numbers: by IDS, of " + d);
            S.run(d, "put 5 3 3 3 3", "put 4 3 3 3 3", "put 6 3 3 3 3", "walk: 5 4 6", "node 4 4 = 1", "node 6 4 = 0");
            S.of("Terms, 2", words, "the number goes ahead of the ID, of " + d);
            S.run(d, "put 5 3 3 3 3", "put 6 2 9 9 9", "put 4 4 -9 -9 -9", "walk: 5 6 4", "node 6 4 = 1", "node 4 4 = 0");
        }
        S.of("Terms, 2", words, "alike by y below the root, though not by x");
        S.run(2, "put 0 0 0", "put 9 1 7", "put 8 5 7", "node 8: 2 1 9 0 1", "put 1 -1 0", "put 10 1 7", "node 10: 2 1 9 0 0");
        S.of("Terms, 2", "Left of a NODE are POINTS that are LESS than its one by its AXIS, right of it the others",
            "the same number and the same ID as a DEAD one: right of it");
        S.run(1, "put 5 3 = 1", "put 4 2 = 2", "drop 5 = 1", "put 5 3 = 2", "walk: -95 4 5", "node 5: 1 1 5 1 0");
        S.of("Terms, 2", "Left of a NODE are POINTS that are LESS than its one by its AXIS, right of it the others",
            "at the least and the greatest number");
        S.run(1, "put 5 -10000", "put 6 -10000", "put 4 -10000", "walk: 5 4 6");
        S.run(1, "put 5 10000", "put 6 10000", "put 4 10000", "walk: 5 4 6");
    }

    private static void comes() {
        S.of("Terms, 2", COMES, "the first one is the root");
        S.run(2, "put 7 1 1 = 1", "walk: 7", "node 7: 0 1 -1 0 0");
        S.of("Terms, 2", COMES, "the first one behind all went is the root");
        S.run(2, "put 7 1 1 = 1", "put 8 1 1 = 2", "drop 8 = 1", "drop 7 = 0", "walk:", "put 9 5 5 = 1", "walk: 9", "node 9: 0 1 -1 0 0");
        S.of("Terms, 2", COMES, "DEAD NODES show the way as LIVE ones do");
        S.run(1, line(0, -10, 10), "drop 0 = 2", "put 3 -5 = 3", "put 4 5 = 4", "walk: -100 1 3 2 4", "node 3: 2 1 1 0 0", "node 4: 2 1 2 0 1");
        S.of("Terms, 2", COMES, "below a DEAD NODE without others");
        S.run(1, line(0, -10, 10), "drop 2 = 2", "put 3 15 = 3", "put 4 5 = 4", "walk: 0 1 -98 4 3", "node 3: 2 1 2 1 0", "node 4: 2 1 2 1 1");
    }

    private static void sizes() {
        String words = "SIZE of a NODE: how many NODES there are from it on, DEAD ones too";
        S.of("Terms, 2", words, "1 of one without others");
        S.run(1, "put 0 = 1", "node 0 1 = 1");
        S.of("Terms, 2", words, "LIVE ones");
        S.run(1, line(0, -10, 10, 20), "node 0 1 = 4", "node 1 1 = 1", "node 2 1 = 2", "node 3 1 = 1");
        S.of("Terms, 2", words, "DEAD ones too");
        S.run(1, line(0, -10, 10, 20), "drop 3 = 3", "drop 1 = 2", "node 0 1 = 4", "node 2 1 = 2");
        S.of("Terms, 2", words, "less by those that were gone when a part below was BUILT ANEW");
        S.run(1, line(0, -10, 10, 20, 30), "drop 3 = 4", "node 0 1 = 5", "put 5 40 = 5", "node 0 1 = 5", "node 4 1 = 3", "count 2 = 5");
    }

    private static void leansAtTheBorder() {
        S.of("Terms, 2", LEANS, "right 2 of 3 is not more, 3 of 4 is");
        S.run(1, line(0, 10, 20), "walk: 0 1 2", "count 5 = 0", "put 3 30 = 4", "walk: 2 1 0 3", "count 5 = 1", "count 7 = 4");
        S.of("Terms, 2", LEANS, "left 2 of 3 is not more, 3 of 4 is");
        S.run(1, line(0, -10, -20), "walk: 0 1 2", "count 5 = 0", "put 3 -30 = 4", "walk: 1 2 3 0", "count 5 = 1", "count 7 = 4");
        S.of("Terms, 2", LEANS, "one of two, the other side without: not more");
        S.run(1, line(0, 10), "walk: 0 1", "count 5 = 0");
        S.run(1, line(0, -10), "walk: 0 1", "count 5 = 0");
        S.of("Terms, 2", LEANS, "just below the border, 3 of 5");
        S.run(1, line(0, -10, 10, 20, 30), "walk: 0 1 2 3 4", "count 5 = 0");
        S.run(1, line(0, 10, -10, -20, -30), "walk: 0 2 3 4 1", "count 5 = 0");
        S.of("Terms, 2", LEANS, "right 4 of 6 is not more, 5 of 7 is");
        S.run(1, line(0, -10, 10, 5, 20, 30), "walk: 0 1 2 3 4 5", "count 5 = 0", "put 6 40 = 7", "walk: 2 0 1 3 5 4 6", "count 5 = 1", "count 7 = 7");
        S.of("Terms, 2", LEANS, "left 4 of 6 is not more, 5 of 7 is");
        S.run(1, line(0, 10, -10, -5, -20, -30), "walk: 0 2 4 5 3 1", "count 5 = 0", "put 6 -40 = 7", "walk: 2 5 6 4 0 3 1", "count 5 = 1", "count 7 = 7");
        S.of("Terms, 2", LEANS, "below the root, right and left");
        S.run(1, line(0, -10, 10, 20, 30), "put 5 40 = 6", "walk: 0 1 4 3 2 5", "count 5 = 1", "count 7 = 4", "node 4: 1 4 0 0 0");
        S.run(1, line(0, 10, -10, -20, -30), "put 5 -40 = 6", "walk: 0 3 4 5 2 1", "count 5 = 1", "count 7 = 4", "node 3: 1 4 0 0 1");
    }

    /** Left 2, right 6 of 9; of the right, right 4 of 6: each at the border. */
    private static List<String> twiceAtTheBorder() {
        return line(0, -10, 10, 20, -20, 5, 15, 25, 30);
    }

    private static void leansFromTheRootOn() {
        S.of("Terms, 2", "of the NODES on its way, from the root on, the first one", "two lean at once: the upper one alone");
        S.run(1, twiceAtTheBorder(), "walk: 0 1 4 2 5 3 6 7 8", "count 5 = 0", "put 9 17 = 10", "walk: 6 0 1 4 2 5 7 3 9 8",
            "count 5 = 1", "count 7 = 10");
        S.of("Terms, 2", LEANS, "one above that leans when DEAD ones are gone below it stays as it is");
        S.run(1, leaningRoot(), "walk: 0 1 2 4 5 3 6 7 14", "node 0 1 = 9", "node 1 1 = 7", "count: 1 9 9 0 4 1 0 1");
        S.of("Terms, 2", LEANS, "it is BUILT ANEW with the next one, though that goes to the lesser side");
        S.run(1, leaningRoot(), "put 15 50 = 10", "walk: 3 5 2 4 6 1 14 0 7 15", "count 5 = 2", "count 7 = 11");
        S.of("Terms, 2", "A POINT that goes is DEAD", "nothing is BUILT ANEW because it leans then");
        S.run(1, leaningRoot(), "drop 7 = 8", "walk: 0 1 2 4 5 3 6 -93 14", "count 5 = 1", "count 6 = 0");
    }

    /** Left 7, right three DEAD ones in a line; the one that comes below them has them BUILT ANEW: 7 left, 1 right. */
    private static List<String> leaningRoot() {
        return Rows.of("put 0 0", "put 1 -40", "put 11 10", "put 2 -60", "put 12 20", "put 3 -20", "put 13 30", "put 4 -70", "put 5 -50",
            "put 6 -30", "put 7 -10", "count 5 = 0", "drop 11", "drop 12", "drop 13", "count 3 = 3", "put 14 40");
    }

    private static void leansOnItsWayOnly() {
        List<String> sides = Rows.of("put 50 1000", "put 51 2000", "put 0 0", "put 52 1500", "put 1 -40", "put 53 2500", "put 11 10",
            "put 54 1200", "put 2 -60", "put 55 1700", "put 12 20", "put 56 2200", "put 3 -20", "put 13 30", "put 4 -70", "put 5 -50",
            "put 6 -30", "put 7 -10", "count 5 = 0", "drop 11", "drop 12", "drop 13", "put 14 40", "count 5 = 1",
            "walk: 50 0 1 2 4 5 3 6 7 14 51 52 54 55 53 56");
        S.of("Terms, 2", "of the NODES on its way", "one that leans beside the way stays as it is");
        S.run(1, sides, "put 57 3000", "count 5 = 1", "walk: 50 0 1 2 4 5 3 6 7 14 51 52 54 55 53 56 57");
        S.of("Terms, 2", "of the NODES on its way", "it is BUILT ANEW when a POINT comes by");
        S.run(1, sides, "put 15 50", "count 5 = 2", "walk: 50 3 5 2 4 6 1 14 0 7 15 51 52 54 55 53 56", "count 7 = 11");
    }

    private static void leansWithDeadOnes() {
        S.of("Terms, 2", LEANS, "DEAD ones count at the side: 3 of 4");
        S.run(1, line(0, 10, 20), "drop 1 = 2", "walk: 0 -99 2", "put 3 30 = 3", "walk: 2 0 3", "count: 1 3 3 0 2 1 0 3");
        S.of("Terms, 2", LEANS, "DEAD ones count in its own SIZE: 3 of 5");
        S.run(1, line(0, -10, 10, 20), "drop 1 = 3", "put 4 30 = 4", "walk: 0 -99 2 3 4", "count: 1 4 5 1 4 0 0 0");
        S.of("Terms, 2", LEANS, "a DEAD NODE is BUILT ANEW too, and is gone");
        S.run(1, line(0, 10, 20), "drop 0 = 2", "put 3 30 = 3", "walk: 2 1 3", "count: 1 3 3 0 2 1 0 3");
        S.run(1, line(0, -10, 10, 20, 30), "drop 2 = 4", "put 5 40 = 5", "walk: 0 1 4 3 5", "count: 1 5 5 0 3 1 0 3", "node 0 1 = 5");
        S.of("Terms, 2", "(DEAD ones are gone.)", "those beside what is BUILT ANEW stay");
        S.run(1, line(0, -10, 10, 20, 30), "drop 1 = 4", "drop 0 = 3", "put 5 40 = 4", "walk: -100 -99 4 3 2 5", "count: 1 4 6 2 4 1 0 4");
    }

    private static void goes() {
        S.of("Terms, 2", GOES, "1 of 1 is more: nothing is left");
        S.run(1, "put 4 = 1", "drop 4 = 0", "walk:", "count: 1 0 0 0 0 0 1 0");
        S.of("Terms, 2", GOES, "1 of 2 is not more, 2 of 2 is: nothing is left");
        S.run(1, line(0, 10), "drop 0 = 1", "walk: -100 1", "count: 1 1 2 1 2 0 0 0", "drop 1 = 0", "walk:", "count: 1 0 0 0 0 0 1 0");
        S.of("Terms, 2", GOES, "1 of 3 is not more, 2 of 3 is");
        S.run(1, line(0, -10, 10), "drop 0 = 2", "walk: -100 1 2", "count 6 = 0", "drop 2 = 1", "walk: 1", "count: 1 1 1 0 1 0 1 1", "node 1: 0 1 -1 0 0");
        S.of("Terms, 2", GOES, "2 of 4 is not more, 3 of 4 is");
        S.run(1, line(0, -10, 10, 20), "drop 0 = 3", "drop 1 = 2", "walk: -100 -99 2 3", "count 6 = 0", "drop 3 = 1", "walk: 2", "count: 1 1 1 0 1 0 1 1");
        S.of("Terms, 2", GOES, "the root, though it does not lean and the DEAD ones are at one side");
        S.run(1, line(0, -10, 10, -20, -5, 20), "drop 1 = 5", "drop 3 = 4", "drop 4 = 3", "walk: 0 -99 -97 -96 2 5", "count 6 = 0",
            "drop 0 = 2", "walk: 5 2", "count: 1 2 2 0 2 0 1 2");
        S.of("Terms, 2", GOES, "DEAD ones that are gone by one that came count no more");
        S.run(1, line(0, 10, 20), "drop 1 = 2", "put 3 30 = 3", "walk: 2 0 3", "drop 0 = 2", "walk: 2 -100 3", "count 6 = 0", "drop 3 = 1",
            "walk: 2", "count: 1 1 1 0 1 1 1 4");
    }

    private static void goesAtEverySize() {
        for (int n = 1; n <= 60; n++) {
            S.of("Terms, 2", GOES, "of " + n + " NODES half are not more, one beyond half is");
            List<String> rows = new ArrayList<>();
            for (int id = 0; id < n; id++) {
                rows.add("put " + id + " " + id * 37 % 61 + " " + id * 11 % 13);
            }
            for (int id = 0; id < n / 2; id++) {
                rows.add("drop " + id + " = " + (n - 1 - id));
            }
            int left = n - n / 2 - 1;
            S.run(2, rows, "count 2 = " + n, "count 3 = " + n / 2, "count 6 = 0", "drop " + n / 2 + " = " + left, "count 2 = " + left,
                "count 3 = 0", "count 6 = 1");
        }
    }

    private static void builtAnewOfFew() {
        S.of("Terms, 2", "without any there is nothing", "m 0: no NODES, and no POINTS in it");
        S.run(2, "put 1 = 1", "put 2 = 2", "drop 1 = 1", "drop 2 = 0", "walk:", "count: 2 0 0 0 0 0 1 0");
        S.of("Terms, 2", ANEW, "m 1: place 0, no left, no right");
        S.run(1, line(0, 10, 20), "drop 0", "drop 1 = 1", "walk: 2", "node 2: 0 1 -1 0 0", "count 7 = 1");
        S.of("Terms, 2", ANEW, "m 2: place 1, no right");
        S.run(1, line(0, -10, 10, -20, 20), "drop 0", "drop 1", "drop 2 = 2", "walk: 4 3", "node 3: 1 1 4 0 1", "count 7 = 2");
        S.of("Terms, 2", ANEW, "m 3: place 1");
        S.run(1, line(0, -10, 10, -20, 20, 30, -30), "drop 0", "drop 1", "drop 2", "drop 3 = 3", "walk: 4 6 5", "count 7 = 3");
        S.of("Terms, 2", ANEW, "m 4: place 2");
        S.run(1, line(0, 10, 20, 30), "walk: 2 1 0 3", "node 1: 1 2 2 0 1", "node 0: 2 1 1 0 1", "node 3: 1 1 2 0 0", "count 7 = 4");
        S.of("Terms, 2", "ordered by LESS of its AXIS", "alike numbers by IDS");
        S.run(1, "put 9 5", "put 3 5", "put 2 5", "put 1 5", "walk: 3 2 1 9", "count 5 = 1");
        S.run(2, "put 9 5 5", "put 3 5 5", "put 2 5 5", "put 1 5 5", "walk: 3 2 1 9", "count 5 = 1");
    }

    private static void builtAnewByItsOwnAxis() {
        S.of("Terms, 2", "each likewise by its own AXIS", "a part below the root begins with its own AXIS, not with x");
        S.run(2, "put 0 0 0", "put 1 -10 0", "put 2 10 10", "put 3 8 20", "put 4 30 30", "count 5 = 0", "put 5 5 40", "count 5 = 1",
            "walk: 0 1 4 2 3 5", "node 4: 1 4 0 0 0", "node 2: 2 2 4 0 1", "node 3: 3 1 2 0 1", "node 5: 2 1 4 0 0");
        S.of("Terms, 2", "each likewise by its own AXIS", "what comes next goes by the new DEPTHS");
        S.run(2, "put 0 0 9", "put 1 1 8", "put 2 2 7", "put 3 3 6", "walk: 2 0 1 3", "put 4 1 9", "node 4: 2 1 0 0 0", "put 5 9 5", "node 5: 2 1 3 0 1");
    }

    /** All numbers of m 6 to 29 LIVE POINTS, 1 to 4 axes, with alike numbers among them, ordered here as the document says. */
    private static void builtAnewOfMany() {
        for (int d = 1; d <= 4; d++) {
            for (int m = 6; m <= 29; m++) {
                S.of("Terms, 2", "those ahead of it make its left, those behind its right, each likewise by its own AXIS", m + " of " + d + " axes");
                int n = 2 * m + 1;
                List<String> rows = new ArrayList<>();
                int[][] stay = new int[m][];
                for (int id = 0; id < n; id++) {
                    int[] p = {id, id * 7 % 11, id * 5 % 7, id * 3 % 5, id * 11 % 17};
                    rows.add("put " + p[0] + " " + p[1] + " " + p[2] + " " + p[3] + " " + p[4]);
                    if (id % 2 == 1) {
                        stay[id / 2] = p;
                    }
                }
                for (int id = 0; id < n; id += 2) {
                    rows.add("drop " + id);
                }
                List<String> due = new ArrayList<>();
                order(stay, 0, d, due);
                S.run(d, rows, "walk: " + Sentences.joined(due), "count 6 = 1", "count 3 = 0");
            }
        }
    }

    /** Right 40 of 60 NODES, one of them DEAD; the one that comes is the 60th LIVE POINT and has the root BUILT ANEW. */
    private static void builtAnewOfAll() {
        for (int d = 1; d <= 4; d++) {
            S.of("Terms, 2", ANEW, "all sixty, of " + d);
            List<String> rows = new ArrayList<>(List.of("put 0 0 0 0 0"));
            List<int[]> live = new ArrayList<>(List.of(new int[] {0, 0, 0, 0, 0}));
            int left = 0;
            int right = 0;
            for (int id = 1; id < 61; id++) {
                boolean toLeft = id % 3 == 1 && left < 19;
                // Bits turned round halve the range again and again, so that each side grows evenly by every axis.
                int turned = Integer.reverse(toLeft ? ++left : ++right) >>> 20;
                int[] p = {id, toLeft ? turned - 4096 : turned + 1, d == 1 ? 0 : turned, d <= 2 ? 0 : turned, d <= 3 ? 0 : turned};
                if (id == 60) {
                    rows.addAll(List.of("count 5 = 0", "drop 58 = 59", "node 0 1 = 60"));
                    live.removeIf(q -> q[0] == 58);
                }
                rows.add("put " + p[0] + " " + p[1] + " " + p[2] + " " + p[3] + " " + p[4]);
                live.add(p);
            }
            List<String> due = new ArrayList<>();
            order(live.toArray(new int[0][]), 0, d, due);
            S.run(d, rows, "count: " + d + " 60 60 0 6 1 0 60", "walk: " + Sentences.joined(due));
        }
    }

    /** Points are rows: ID, x, y, z, w. */
    private static void order(int[][] points, int depth, int d, List<String> into) {
        if (points.length == 0) {
            return;
        }
        int[][] ordered = points.clone();
        int column = 1 + depth % d;
        Arrays.sort(ordered, Comparator.<int[]>comparingInt(p -> p[column]).thenComparingInt(p -> p[0]));
        int middle = ordered.length / 2;
        into.add(String.valueOf(ordered[middle][0]));
        order(Arrays.copyOfRange(ordered, 0, middle), depth + 1, d, into);
        order(Arrays.copyOfRange(ordered, middle + 1, ordered.length), depth + 1, d, into);
    }

    private static void nodeOfRoot() {
        S.of("Promise 14", "0 its DEPTH, 1 its SIZE, 2 the ID of the NODE above it (NONE of the root)", "the root alone");
        S.run(3, "put 42 1 1 1", "node 42 0 = 0", "node 42 1 = 1", "node 42 2 = -1");
        S.of("Promise 14", "(NONE of the root)", "the root with others, of the ID 0 and of the ID 99");
        S.run(1, line(0, -10, 10), "node 0 2 = -1");
        S.run(1, "put 99 0", "put 1 -10", "put 2 10", "node 99 2 = -1");
        S.of("Promise 14", "3 whether that is DEAD (1, 0; 0 of the root)", "0 of the root");
        S.run(1, "put 0 0", "node 0 3 = 0", "put 1 -10", "put 2 10", "node 0 3 = 0", "drop 1", "node 0 3 = 0");
        S.of("Promise 14", "4 whether it is left of that (1, 0)", "0 of the root, for it is left of none");
        S.run(1, "put 0 0", "node 0 4 = 0", "put 1 -10", "put 2 10", "node 0 4 = 0");
        S.of("Promise 14", "(NONE of the root)", "one that became the root when it was BUILT ANEW, and the one that was it");
        S.run(1, line(0, 10, 20, 30), "node 2: 0 4 -1 0 0", "node 0: 2 1 1 0 1");
        S.run(1, line(0, 10), "drop 0", "node 1: 1 1 0 1 0", "put 2 5", "drop 2", "walk: 1", "node 1: 0 1 -1 0 0");
    }

    private static void nodeBelow() {
        S.of("Promise 14", "0 its DEPTH", "the deepest of a line of three");
        S.run(1, line(0, 10, 20), "node 0 0 = 0", "node 1 0 = 1", "node 2 0 = 2");
        S.of("Promise 14", "2 the ID of the NODE above it", "a LIVE one, with the ID 0 and 99");
        S.run(1, "put 0 0", "put 5 1", "node 5 2 = 0", "node 5 3 = 0");
        S.run(1, "put 99 0", "put 5 1", "node 5 2 = 99", "node 5 3 = 0");
        S.of("Promise 14", "2 the ID of the NODE above it", "a DEAD one: its ID as it was");
        S.run(1, "put 0 0", "put 5 1", "drop 0", "node 5 2 = 0", "node 5 3 = 1");
        S.run(1, "put 99 0", "put 5 1", "drop 99", "node 5 2 = 99", "node 5 3 = 1");
        S.of("Promise 14", "3 whether that is DEAD", "a DEAD root, and a LIVE one below it");
        S.run(1, line(0, -10, 10, 20), "drop 0", "node 1 3 = 1", "node 2 3 = 1", "node 3 3 = 0");
        S.of("Promise 14", "3 whether that is DEAD", "the one above has the very ID, for it went and came again");
        S.run(1, "put 1 0", "put 2 -5", "drop 1", "put 1 3", "node 1: 1 1 1 1 0");
        S.of("Promise 14", "3 whether that is DEAD", "the ID of the DEAD one above is LIVE again elsewhere");
        S.run(1, line(0, -10, 10), "drop 0", "put 0 20", "walk: -100 1 2 0", "node 1: 1 1 0 1 1", "node 2: 1 2 0 1 0", "node 0: 2 1 2 0 0");
        S.of("Promise 14", "4 whether it is left of that (1, 0)", "left and right, alike numbers too");
        S.run(1, "put 5 0", "put 4 0", "put 6 0", "node 4 4 = 1", "node 6 4 = 0");
        S.of("Promise 14", "Of the NODE of a LIVE POINT", "one that went and came again: of its new NODE");
        S.run(1, line(0, -10, 10, -20), "drop 2", "put 2 -5", "walk: 0 1 3 2 -98", "node 2: 2 1 1 0 0");
    }

    private static void nodeRefuses() {
        String words = "IllegalArgumentException: the ID, what";
        for (String id : new String[] {"-1", "100", "min", "max"}) {
            S.of("Promise 14", words, "the ID " + id);
            S.run(1, "node " + id + " 0 = argument", "put 0 = 1", "put 99 = 2", "node " + id + ": argument argument argument argument argument");
        }
        for (String what : new String[] {"-1", "5", "min", "max"}) {
            S.of("Promise 14", words, "what " + what);
            S.run(1, "put 0 = 1", "node 0 " + what + " = argument", "put 1 5", "node 1 " + what + " = argument");
        }
        S.of("Promise 14", words, "both");
        S.run(1, "node -1 -1 = argument", "node 100 5 = argument");
        S.of("Promise 14", "IllegalStateException: it is not LIVE", "never came, DEAD, gone");
        S.run(1, "node 0: state state state state state", "put 0 0", "put 1 5", "node 2: state state state state state", "drop 0",
            "node 0: state state state state state", "drop 1", "node 0 0 = state", "node 1 0 = state");
    }

    private static void walks() {
        String words = "The ID of the POINT of the k-th NODE (from 0 on): the root, then all of its left, then all of its right, each likewise";
        S.of("Promise 15", words, "one NODE");
        S.run(1, "put 7", "walk 0 = 7", "walk 1 = outside");
        S.of("Promise 15", words, "all of the left ahead of the right");
        S.run(1, line(0, -20, 20, -30, -10, 10, 30), "walk: 0 1 3 4 2 5 6");
        S.of("Promise 15", words, "a left without right, a right without left");
        S.run(1, line(0, -10, 10, -20, 20), "walk: 0 1 3 2 4");
        S.run(1, line(0, -10, 10, -5, 5), "walk: 0 1 3 2 4");
        S.of("Promise 15", "of a DEAD one less 100", "the IDS 0 and 99");
        S.run(1, "put 0 0", "put 99 -5", "put 50 5", "put 51 6", "drop 0", "walk: -100 99 50 51", "drop 99", "walk: -100 -1 50 51");
        S.of("Promise 15", "IndexOutOfBoundsException", "below 0 and behind the last one");
        S.run(1, line(0, -10, 10), "walk -1 = outside", "walk min = outside", "walk 2 = 2", "walk 3 = outside", "walk 100 = outside", "walk max = outside");
        S.of("Promise 15", "IndexOutOfBoundsException", "the tree without NODES, and behind the last LIVE POINT that went");
        S.run(2, "walk 0 = outside", "walk -1 = outside", "walk max = outside", "put 3", "walk 0 = 3", "drop 3", "walk 0 = outside", "walk 1 = outside");
        S.of("Promise 15", "IndexOutOfBoundsException", "places of NODES that are gone");
        S.run(1, line(0, -10, 10), "drop 0", "walk 2 = 2", "drop 1", "walk 0 = 2", "walk 1 = outside", "walk 2 = outside");
    }

    private static void counts() {
        String words = "4 the greatest DEPTH and 1 (0 without NODES)";
        S.of("Promise 16", words, "without NODES, with one, and behind the last that went");
        S.run(1, "count 4 = 0", "put 1", "count 4 = 1", "drop 1", "count 4 = 0");
        S.of("Promise 16", words, "of the deeper side, left or right");
        S.run(1, line(0, -10, 10, 20), "count 4 = 3");
        S.run(1, line(0, 10, -10, -20), "count 4 = 3");
        S.of("Promise 16", words, "a DEAD one may be the deepest, and less when it is gone");
        S.run(1, line(0, -10, 10, 20), "drop 3", "count 4 = 3", "drop 1", "count 4 = 3", "drop 0", "count 4 = 1");
        S.of("Promise 16", "1 LIVE POINTS, 2 NODES, 3 DEAD ones", "DEAD ones are NODES and not LIVE");
        S.run(1, line(0, -10, 10), "count 1 = 3", "count 2 = 3", "count 3 = 0", "drop 1", "count 1 = 2", "count 2 = 3", "count 3 = 1");
        S.of("Promise 16", "5 how often a NODE was BUILT ANEW because of a POINT that came", "a whole tree BUILT ANEW is one time, twice are two");
        S.run(1, line(0, 10, 20), "count 5 = 0", "put 3 30", "count 5 = 1", "count 6 = 0", "put 4 40", "put 5 50", "count 5 = 1", "put 6 60", "count 5 = 2");
        S.of("Promise 16", "6 of one that went", "one time each, the empty tree too");
        S.run(1, line(0, -10, 10), "drop 0", "count 6 = 0", "drop 1", "count 6 = 1", "count 5 = 0", "drop 2", "count 6 = 2", "put 3", "drop 3", "count 6 = 3");
        S.of("Promise 16", "7 POINTS that were in what was BUILT ANEW", "of both kinds together, LIVE ones alone");
        S.run(1, line(0, 10, 20), "drop 1", "count 7 = 0", "put 3 30", "count 5 = 1", "count 7 = 3", "drop 0", "count 7 = 3", "drop 2", "count 6 = 1",
            "count 7 = 4", "drop 3", "count 6 = 2", "count 7 = 4");
        for (String what : new String[] {"-1", "8", "min", "max"}) {
            S.of("Promise 16", "7 POINTS that were in what was BUILT ANEW. IllegalArgumentException", "what " + what);
            S.run(1, "count " + what + " = argument", "put 1", "count " + what + " = argument");
        }
    }
}
