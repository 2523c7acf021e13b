/** Promises 11 to 13: pair, parts, span. */
public final class PairsTest {
    private static final Check CHECK = new Check();

    public static void main(String[] args) {
        pairFinds();
        pairOfTies();
        pairRefuses();
        partsCounts();
        partsRefuses();
        spanSums();
        CHECK.end();
    }

    private static void pair(String what, NearTree tree, int lesser, int greater, long distance) {
        CHECK.is(what + ": lesser", tree.pair(0), lesser);
        CHECK.is(what + ": greater", tree.pair(1), greater);
        CHECK.is(what + ": distance", tree.pair(2), distance);
    }

    private static void pairFinds() {
        NearTree tree = new NearTree(2);
        tree.put(90, 0, 0, 0, 0);
        tree.put(10, 10000, 10000, 0, 0);
        pair("two", tree, 10, 90, 200000000);
        tree.put(50, 1, 2, 0, 0);
        pair("three", tree, 50, 90, 5);
        tree.put(99, 1, 1, 0, 0);
        pair("four", tree, 50, 99, 1);
        tree.drop(99);
        pair("live ones only", tree, 50, 90, 5);
        NearTree far = new NearTree(4);
        far.put(0, -10000, -10000, -10000, -10000);
        far.put(1, 10000, 10000, 10000, 10000);
        pair("the farthest", far, 0, 1, 1600000000L);
    }

    private static void pairOfTies() {
        NearTree tree = new NearTree(1);
        tree.put(8, 0, 0, 0, 0);
        tree.put(5, 1, 0, 0, 0);
        tree.put(7, 2, 0, 0, 0);
        pair("the least other ID", tree, 5, 7, 1);
        tree.put(2, 100, 0, 0, 0);
        tree.put(9, 101, 0, 0, 0);
        pair("the least ID", tree, 2, 9, 1);
        tree.put(3, 100, 0, 0, 0);
        pair("the least distance goes ahead", tree, 2, 3, 0);
    }

    private static void pairRefuses() {
        NearTree tree = new NearTree(1);
        CHECK.refused("what -1 goes ahead of the state", () -> tree.pair(-1));
        CHECK.refused("what 3 goes ahead of the state", () -> tree.pair(3));
        CHECK.badState("none", () -> tree.pair(0));
        tree.put(0, 0, 0, 0, 0);
        CHECK.badState("one", () -> tree.pair(1));
        tree.put(1, 0, 0, 0, 0);
        CHECK.is("two", tree.pair(1), 1);
        CHECK.refused("what 3", () -> tree.pair(3));
        tree.drop(0);
        CHECK.badState("one live, one dead", () -> tree.pair(2));
    }

    private static void partsCounts() {
        NearTree tree = new NearTree(1);
        CHECK.is("none", tree.parts(0), 0);
        CHECK.is("none, the most", tree.parts(Long.MAX_VALUE), 0);
        int[] numbers = {0, 0, 1, 3, 6, 10};
        tree.put(0, numbers[0], 0, 0, 0);
        CHECK.is("one", tree.parts(0), 1);
        for (int id = 1; id < numbers.length; id++) {
            tree.put(id, numbers[id], 0, 0, 0);
        }
        CHECK.is("most 0", tree.parts(0), 5);
        CHECK.is("most 1", tree.parts(1), 4);
        CHECK.is("most 3", tree.parts(3), 4);
        CHECK.is("most 4", tree.parts(4), 3);
        CHECK.is("most 9: hang together by others", tree.parts(9), 2);
        CHECK.is("most 16", tree.parts(16), 1);
        CHECK.is("the most", tree.parts(Long.MAX_VALUE), 1);
        tree.drop(3);
        CHECK.is("what joined them went", tree.parts(9), 3);
        NearTree two = new NearTree(2);
        two.put(0, 0, 0, 0, 0);
        two.put(1, 3, 4, 0, 0);
        CHECK.is("two apart", two.parts(24), 2);
        CHECK.is("two together", two.parts(25), 1);
    }

    private static void partsRefuses() {
        NearTree tree = new NearTree(1);
        CHECK.refused("-1", () -> tree.parts(-1));
        CHECK.refused("least", () -> tree.parts(Long.MIN_VALUE));
    }

    private static void spanSums() {
        NearTree tree = new NearTree(2);
        CHECK.is("none", tree.span(), 0);
        tree.put(0, 0, 0, 0, 0);
        CHECK.is("one", tree.span(), 0);
        tree.put(1, 10, 0, 0, 0);
        CHECK.is("two", tree.span(), 100);
        tree.put(2, 5, 1, 0, 0);
        CHECK.is("by the one between", tree.span(), 52);
        tree.put(3, 5, 1, 0, 0);
        CHECK.is("alike ones are no farther", tree.span(), 52);
        tree.drop(2);
        CHECK.is("the other one does it", tree.span(), 52);
        tree.drop(3);
        CHECK.is("live ones only", tree.span(), 100);
        NearTree far = new NearTree(4);
        for (int id = 0; id < 60; id++) {
            int side = id % 2 == 0 ? 10000 : -10000;
            far.put(id, side, side, side, side);
        }
        CHECK.is("two heaps", far.span(), 1600000000L);
        NearTree corners = new NearTree(4);
        for (int id = 0; id < 16; id++) {
            corners.put(id, corner(id, 1), corner(id, 2), corner(id, 4), corner(id, 8));
        }
        CHECK.is("more than an int holds", corners.span(), 15 * 400000000L);
    }

    private static int corner(int id, int bit) {
        return (id & bit) == 0 ? -10000 : 10000;
    }
}
