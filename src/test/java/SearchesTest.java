/** Promises 5 to 10: nearest, within, listed, distance, looked, inBox. */
public final class SearchesTest {
    private static final Check CHECK = new Check();

    public static void main(String[] args) {
        nearestLists();
        nearestOfTiesTakesLesserIds();
        nearestRefuses();
        lookedCounts();
        lookedOfDeadNodes();
        lookedOfNone();
        lookedByAxes();
        withinLists();
        withinRefuses();
        listStaysAsFound();
        inBoxCounts();
        inBoxRefuses();
        CHECK.end();
    }

    /** 0, 10, 20, 30 with IDS 0 to 3: BUILT ANEW at the fourth, walk 2 1 0 3. */
    private static NearTree four() {
        NearTree tree = new NearTree(1);
        for (int id = 0; id < 4; id++) {
            tree.put(id, 10 * id, 0, 0, 0);
        }
        CHECK.walk("four", tree, 2, 1, 0, 3);
        return tree;
    }

    private static void nearestLists() {
        NearTree tree = four();
        CHECK.is("k 2", tree.nearest(2, 12, 99999, 99999, 99999), 2);
        CHECK.list("k 2", tree, 1, 2);
        CHECK.is("near", tree.distance(0), 4);
        CHECK.is("next", tree.distance(1), 64);
        CHECK.is("k 100", tree.nearest(100, 30, 0, 0, 0), 4);
        CHECK.list("k 100", tree, 3, 2, 1, 0);
        CHECK.is("the farthest", tree.distance(3), 900);
        CHECK.is("k 0", tree.nearest(0, 30, 0, 0, 0), 0);
        CHECK.list("k 0", tree);
        NearTree far = new NearTree(4);
        far.put(0, 10000, 10000, 10000, 10000);
        far.nearest(1, -10000, -10000, -10000, -10000);
        CHECK.is("the farthest that can be", far.distance(0), 1600000000L);
    }

    private static void nearestOfTiesTakesLesserIds() {
        NearTree tree = new NearTree(2);
        int[] ids = {40, 7, 23, 99, 1};
        for (int id : ids) {
            tree.put(id, 3, 4, 0, 0);
        }
        tree.put(0, 4, 3, 0, 0);
        CHECK.is("three of six", tree.nearest(3, 0, 0, 0, 0), 3);
        CHECK.list("three of six", tree, 0, 1, 7);
        CHECK.is("alike", tree.distance(2), 25);
        tree.nearest(6, 0, 0, 0, 0);
        CHECK.list("all six", tree, 0, 1, 7, 23, 40, 99);
    }

    private static void nearestRefuses() {
        for (int d = 1; d <= 4; d++) {
            NearTree tree = new NearTree(d);
            tree.put(6, 1, 1, 1, 1);
            tree.nearest(1, 0, 0, 0, 0);
            CHECK.refused("k -1", () -> tree.nearest(-1, 0, 0, 0, 0));
            CHECK.refused("k 101", () -> tree.nearest(101, 0, 0, 0, 0));
            for (int axis = 0; axis < d; axis++) {
                int[] p = new int[4];
                p[axis] = axis % 2 == 0 ? 10001 : -10001;
                CHECK.refused("a number by " + axis, () -> tree.nearest(0, p[0], p[1], p[2], p[3]));
            }
            CHECK.is("looked stays", tree.looked(), 1);
            CHECK.list("the list stays", tree, 6);
            CHECK.is("its distance stays", tree.distance(0), d);
        }
    }

    private static void lookedCounts() {
        NearTree tree = four();
        CHECK.is("before one", tree.looked(), 0);
        tree.within(1000, 0, 0, 0, 0);
        CHECK.is("within is none", tree.looked(), 0);
        tree.nearest(1, 9, 0, 0, 0);
        CHECK.list("of 9", tree, 1);
        CHECK.is("20, 10, 0", tree.looked(), 3);
        tree.nearest(1, 15, 0, 0, 0);
        CHECK.list("of 15", tree, 1);
        CHECK.is("as far as the last one is not more", tree.looked(), 4);
        tree.nearest(1, 16, 0, 0, 0);
        CHECK.list("of 16", tree, 2);
        CHECK.is("20, 10, 30, for 36 is more than 16", tree.looked(), 3);
        tree.nearest(1, 20, 0, 0, 0);
        CHECK.is("alike goes right: 20, 30, 10", tree.looked(), 3);
        tree.nearest(4, 20, 0, 0, 0);
        CHECK.is("all", tree.looked(), 4);
        tree.nearest(0, 9, 0, 0, 0);
        CHECK.is("k 0: 20, 10, 0", tree.looked(), 3);
        tree.nearest(0, 15, 0, 0, 0);
        CHECK.is("k 0: 20, 10", tree.looked(), 2);
        tree.nearest(0, 20, 0, 0, 0);
        CHECK.is("k 0: 20, 30", tree.looked(), 2);
        tree.within(1000, 0, 0, 0, 0);
        CHECK.is("within changes it not", tree.looked(), 2);
    }

    private static void lookedOfDeadNodes() {
        NearTree tree = four();
        tree.drop(1);
        CHECK.is("the nearest one is dead", tree.nearest(1, 9, 0, 0, 0), 1);
        CHECK.list("so the next", tree, 0);
        CHECK.is("it was looked at: 20, dead 10, 0", tree.looked(), 3);
        tree.drop(2);
        CHECK.is("two dead", tree.nearest(1, 21, 0, 0, 0), 1);
        CHECK.list("two dead", tree, 3);
        CHECK.is("dead 20, 30, and dead 10, for 1 is not more than 81; not 0, for 121 is", tree.looked(), 3);
        CHECK.is("all that live", tree.nearest(4, 21, 0, 0, 0), 2);
        CHECK.is("all nodes", tree.looked(), 4);
    }

    private static void lookedOfNone() {
        NearTree tree = new NearTree(3);
        CHECK.is("nothing there", tree.nearest(5, 0, 0, 0, 0), 0);
        CHECK.is("nothing looked at", tree.looked(), 0);
        CHECK.list("nothing there", tree);
        tree.put(0, 0, 0, 0, 0);
        tree.nearest(5, 0, 0, 0, 0);
        CHECK.is("one", tree.looked(), 1);
        tree.drop(0);
        tree.nearest(5, 0, 0, 0, 0);
        CHECK.is("none again", tree.looked(), 0);
    }

    /** Split by x at 5, left of it by y at 50. */
    private static void lookedByAxes() {
        NearTree tree = new NearTree(2);
        tree.put(9, -3, 50, 0, 0);
        tree.put(1, 0, 0, 0, 0);
        tree.put(2, 5, 10, 0, 0);
        tree.put(3, 9, -20, 0, 0);
        CHECK.walk("by axes", tree, 2, 9, 1, 3);
        tree.nearest(1, 9, -20, 0, 0);
        CHECK.list("right", tree, 3);
        CHECK.is("2, 3", tree.looked(), 2);
        tree.nearest(1, 4, 0, 0, 0);
        CHECK.list("left", tree, 1);
        CHECK.is("2, 9, 1, and 3, for 1 is not more than 16", tree.looked(), 4);
        tree.nearest(1, -3, 45, 0, 0);
        CHECK.list("above", tree, 9);
        CHECK.is("2, 9, 1, for 64 is more than 25", tree.looked(), 3);
        tree.nearest(1, -3, 60, 0, 0);
        CHECK.is("2, 9, 1, for 100 is not more than 100, and 3, for 64 is not", tree.looked(), 4);
        tree.nearest(1, -3, 50, 0, 0);
        CHECK.is("2, 9, 1, for 0 is not more than 0", tree.looked(), 3);
    }

    private static void withinLists() {
        NearTree tree = new NearTree(2);
        tree.put(4, 3, 4, 0, 0);
        tree.put(2, -3, 4, 0, 0);
        tree.put(9, 0, 0, 0, 0);
        tree.put(5, 0, 6, 0, 0);
        tree.put(7, 0, 0, 0, 0);
        CHECK.is("most 25", tree.within(25, 0, 0, 77777, -77777), 4);
        CHECK.list("most 25", tree, 7, 9, 2, 4);
        CHECK.is("its distance", tree.distance(3), 25);
        CHECK.is("most 24", tree.within(24, 0, 0, 0, 0), 2);
        CHECK.list("most 24", tree, 7, 9);
        CHECK.is("most 0", tree.within(0, 0, 6, 0, 0), 1);
        CHECK.list("most 0", tree, 5);
        CHECK.is("none", tree.within(0, 1, 1, 0, 0), 0);
        CHECK.list("none", tree);
        CHECK.is("the most", tree.within(Long.MAX_VALUE, 0, 0, 0, 0), 5);
        CHECK.list("the most", tree, 7, 9, 2, 4, 5);
        tree.drop(9);
        CHECK.is("live ones only", tree.within(25, 0, 0, 0, 0), 3);
        CHECK.list("live ones only", tree, 7, 2, 4);
        for (int id = 30; id < 86; id++) {
            tree.put(id, id, 0, 0, 0);
        }
        CHECK.is("sixty", tree.within(Long.MAX_VALUE, 0, 0, 0, 0), 60);
        CHECK.is("the last of sixty", tree.listed(59), 85);
        CHECK.outside("behind sixty", () -> tree.listed(60));
    }

    private static void withinRefuses() {
        for (int d = 1; d <= 4; d++) {
            NearTree tree = new NearTree(d);
            tree.put(6, 1, 1, 1, 1);
            tree.within(4, 0, 0, 0, 0);
            CHECK.refused("most -1", () -> tree.within(-1, 0, 0, 0, 0));
            CHECK.refused("most least", () -> tree.within(Long.MIN_VALUE, 0, 0, 0, 0));
            for (int axis = 0; axis < d; axis++) {
                int[] p = new int[4];
                p[axis] = axis % 2 == 0 ? -10001 : 10001;
                CHECK.refused("a number by " + axis, () -> tree.within(0, p[0], p[1], p[2], p[3]));
            }
            CHECK.list("the list stays", tree, 6);
        }
    }

    private static void listStaysAsFound() {
        NearTree tree = new NearTree(1);
        CHECK.list("a new one", tree);
        tree.put(1, 5, 0, 0, 0);
        tree.put(2, 8, 0, 0, 0);
        tree.nearest(2, 4, 0, 0, 0);
        tree.drop(1);
        tree.drop(2);
        tree.put(1, 100, 0, 0, 0);
        CHECK.list("those that went stay listed", tree, 1, 2);
        CHECK.is("as it was found", tree.distance(0), 1);
        CHECK.is("as it was found too", tree.distance(1), 16);
        for (int i : new int[] {-1, 2, 60, 100, Integer.MIN_VALUE, Integer.MAX_VALUE}) {
            CHECK.outside("listed(" + i + ")", () -> tree.listed(i));
            CHECK.outside("distance(" + i + ")", () -> tree.distance(i));
        }
    }

    private static void inBoxCounts() {
        NearTree tree = new NearTree(3);
        tree.put(0, 0, 0, 0, 0);
        tree.put(1, 1, 5, -1, 0);
        tree.put(2, 2, 5, -2, 0);
        tree.put(3, 3, 6, -3, 0);
        CHECK.is("rims count", tree.inBox(0, 1, 3, 1, 5, 5), 2);
        CHECK.is("the first one counts", tree.inBox(0, 2, 3, 1, 5, 6), 2);
        CHECK.is("the same axis twice", tree.inBox(2, -3, -1, 2, -2, 0), 2);
        CHECK.is("low above high", tree.inBox(0, 3, 1, 1, 0, 9), 0);
        CHECK.is("all", tree.inBox(0, Integer.MIN_VALUE, Integer.MAX_VALUE, 2, Integer.MIN_VALUE, Integer.MAX_VALUE), 4);
        tree.drop(2);
        CHECK.is("live ones only", tree.inBox(0, 1, 3, 1, 5, 5), 1);
        CHECK.is("of none", new NearTree(1).inBox(0, 0, 0, 0, 0, 0), 0);
    }

    private static void inBoxRefuses() {
        for (int d = 1; d <= 4; d++) {
            NearTree tree = new NearTree(d);
            tree.put(0, 0, 0, 0, 0);
            int behind = d;
            CHECK.is("the last that counts", tree.inBox(d - 1, 0, 0, d - 1, 0, 0), 1);
            CHECK.refused("axis -1", () -> tree.inBox(-1, 0, 0, 0, 0, 0));
            CHECK.refused("axis2 -1", () -> tree.inBox(0, 0, 0, -1, 0, 0));
            CHECK.refused("axis behind", () -> tree.inBox(behind, 0, 0, 0, 0, 0));
            CHECK.refused("axis2 behind", () -> tree.inBox(0, 0, 0, behind, 0, 0));
            CHECK.refused("axis2 though the box is void", () -> tree.inBox(0, 1, 0, 4, 0, 0));
        }
    }
}
