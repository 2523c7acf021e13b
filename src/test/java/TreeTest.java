/** Promises 14 to 16, and the Terms' tree: node, walk, count. */
public final class TreeTest {
    private static final Check CHECK = new Check();

    public static void main(String[] args) {
        nodeTells();
        nodeRefuses();
        alikeGoesById();
        deadOneOfTheSameId();
        builtAnewBelowTheRoot();
        deadOnesGoWhenBuiltAnew();
        builtAnewByGoing();
        axesTakeTurns();
        builtAnewTakesNewAxes();
        walkRefuses();
        countTells();
        CHECK.end();
    }

    private static void node(String what, NearTree tree, int id, int... due) {
        for (int i = 0; i < due.length; i++) {
            CHECK.is(what + ": node(" + id + ", " + i + ")", tree.node(id, i), due[i]);
        }
    }

    private static NearTree line(int... numbers) {
        NearTree tree = new NearTree(1);
        for (int id = 0; id < numbers.length; id++) {
            tree.put(id, numbers[id], 0, 0, 0);
        }
        return tree;
    }

    private static void nodeTells() {
        NearTree tree = line(0, -5, 5, 7);
        node("root", tree, 0, 0, 4, NearTree.NONE, 0, 0);
        node("left", tree, 1, 1, 1, 0, 0, 1);
        node("right", tree, 2, 1, 2, 0, 0, 0);
        node("right of right", tree, 3, 2, 1, 2, 0, 0);
        tree.drop(0);
        node("left of a dead one", tree, 1, 1, 1, 0, 1, 1);
        node("right of a dead one", tree, 2, 1, 2, 0, 1, 0);
        node("right of a live one", tree, 3, 2, 1, 2, 0, 0);
        tree.drop(3);
        node("dead ones count in a size", tree, 2, 1, 2, 0, 1, 0);
    }

    private static void nodeRefuses() {
        NearTree tree = line(0, 1);
        for (int what = 0; what <= 4; what++) {
            int w = what;
            CHECK.refused("ID -1", () -> tree.node(-1, w));
            CHECK.refused("ID 100", () -> tree.node(100, w));
            CHECK.badState("not live", () -> tree.node(2, w));
        }
        CHECK.refused("what -1", () -> tree.node(0, -1));
        CHECK.refused("what 5", () -> tree.node(0, 5));
        CHECK.refused("what goes ahead of the state", () -> tree.node(2, 5));
        tree.drop(0);
        CHECK.badState("its node is dead", () -> tree.node(0, 0));
        CHECK.is("the other is not", tree.node(1, 0), 1);
    }

    private static void alikeGoesById() {
        NearTree tree = new NearTree(1);
        tree.put(5, 0, 0, 0, 0);
        tree.put(3, 0, 0, 0, 0);
        tree.put(9, 0, 0, 0, 0);
        CHECK.walk("alike", tree, 5, 3, 9);
        tree.put(1, 0, 0, 0, 0);
        tree.put(0, 0, 0, 0, 0);
        CHECK.walk("alike, a line of three", tree, 5, 3, 1, 0, 9);
        tree.put(2, 0, 0, 0, 0);
        CHECK.walk("alike, three of four lean", tree, 5, 2, 1, 0, 3, 9);
        CHECK.is("below the root", tree.count(5), 1);
        tree.put(4, 0, 0, 0, 0);
        CHECK.is("five of seven lean", tree.count(5), 2);
        CHECK.walk("alike, built by IDS", tree, 3, 1, 0, 2, 5, 4, 9);
    }

    private static void deadOneOfTheSameId() {
        NearTree tree = new NearTree(1);
        tree.put(1, 0, 0, 0, 0);
        tree.put(2, 5, 0, 0, 0);
        tree.drop(1);
        CHECK.is("half are dead: it stays", tree.count(6), 0);
        tree.put(1, 0, 0, 0, 0);
        CHECK.walk("not less than its dead self", tree, -99, 2, 1);
        node("it", tree, 1, 2, 1, 2, 0, 1);
        node("its upper one", tree, 2, 1, 2, 1, 1, 0);
    }

    private static void builtAnewBelowTheRoot() {
        NearTree tree = line(0, -10, 10, 20, 30);
        CHECK.walk("three of five lean not", tree, 0, 1, 2, 3, 4);
        tree.put(5, 40, 0, 0, 0);
        CHECK.walk("only the right is built anew", tree, 0, 1, 4, 3, 2, 5);
        CHECK.is("once", tree.count(5), 1);
        CHECK.is("four points", tree.count(7), 4);
        node("the new upper one", tree, 4, 1, 4, 0, 0, 0);
        node("the lowest", tree, 2, 3, 1, 3, 0, 1);
        node("the root", tree, 0, 0, 6, NearTree.NONE, 0, 0);
        CHECK.is("levels", tree.count(4), 4);
    }

    private static void deadOnesGoWhenBuiltAnew() {
        NearTree tree = line(0, -10, 10, 20, 30);
        tree.drop(3);
        CHECK.walk("dead 20", tree, 0, 1, 2, -97, 4);
        tree.put(5, 40, 0, 0, 0);
        CHECK.walk("20 is gone", tree, 0, 1, 4, 2, 5);
        CHECK.is("no dead ones", tree.count(3), 0);
        CHECK.is("three points", tree.count(7), 3);
        CHECK.is("the root is smaller too", tree.node(0, 1), 5);
        tree.drop(1);
        tree.put(6, -10, 0, 0, 0);
        CHECK.walk("a dead one above stays", tree, 0, -99, 6, 4, 2, 5);
    }

    private static void builtAnewByGoing() {
        NearTree tree = line(0, -10, 10, 20);
        tree.drop(0);
        tree.drop(1);
        CHECK.walk("two of four", tree, -100, -99, 2, 3);
        CHECK.is("not yet", tree.count(6), 0);
        tree.drop(3);
        CHECK.walk("three of four", tree, 2);
        CHECK.is("now", tree.count(6), 1);
        CHECK.is("one point", tree.count(7), 1);
        node("the root", tree, 2, 0, 1, NearTree.NONE, 0, 0);
        tree.drop(2);
        CHECK.is("nothing is built anew too", tree.count(6), 2);
        CHECK.is("of no points", tree.count(7), 1);
        CHECK.is("by none that came", tree.count(5), 0);
        CHECK.walk("nothing", tree);
    }

    private static void axesTakeTurns() {
        NearTree tree = new NearTree(3);
        tree.put(0, 0, 0, 0, 0);
        tree.put(1, 1, 5, 9, 0);
        tree.put(2, -1, 0, 0, 0);
        tree.put(3, 2, 4, 0, 0);
        tree.put(4, 3, 6, 0, 0);
        node("by y left", tree, 3, 2, 1, 1, 0, 1);
        node("by y right", tree, 4, 2, 1, 1, 0, 0);
        tree.put(5, -2, 1, 0, 0);
        tree.put(6, 4, 7, -1, 0);
        node("by z left", tree, 6, 3, 1, 4, 0, 1);
        tree.put(7, 2, 8, -1, 0);
        node("by x again left", tree, 7, 4, 1, 6, 0, 1);
    }

    private static void builtAnewTakesNewAxes() {
        NearTree tree = new NearTree(3);
        tree.put(0, 0, 0, 0, 0);
        tree.put(1, 1, 9, 0, 0);
        tree.put(2, 2, 1, 0, 0);
        tree.put(3, 3, 5, 0, 0);
        CHECK.walk("by x, then y", tree, 2, 1, 0, 3);
        node("left", tree, 1, 1, 2, 2, 0, 1);
        node("left of left", tree, 0, 2, 1, 1, 0, 1);
        node("right", tree, 3, 1, 1, 2, 0, 0);
        tree.put(4, 5, 4, 0, 0);
        node("by y below what was the third", tree, 4, 2, 1, 3, 0, 1);
        tree.put(5, 0, 0, -1, 0);
        node("by z below what was the root", tree, 5, 3, 1, 0, 0, 1);
    }

    private static void walkRefuses() {
        NearTree tree = new NearTree(2);
        CHECK.outside("of none", () -> tree.walk(0));
        tree.put(0, 0, 0, 0, 0);
        tree.put(99, 0, 0, 0, 0);
        for (int k : new int[] {-1, 2, Integer.MIN_VALUE, Integer.MAX_VALUE}) {
            CHECK.outside("walk(" + k + ")", () -> tree.walk(k));
        }
        tree.drop(0);
        CHECK.walk("a dead 0", tree, -100, 99);
        tree.put(0, 0, 0, 0, 0);
        tree.put(50, 1, 1, 0, 0);
        CHECK.walk("built anew", tree, 99, 0, 50);
        tree.drop(99);
        CHECK.walk("a dead 99", tree, -1, 0, 50);
    }

    private static void countTells() {
        NearTree tree = line(0, 1, 2, 3);
        tree.drop(0);
        int[] due = {1, 3, 4, 1, 3, 1, 0, 4};
        for (int what = 0; what < due.length; what++) {
            CHECK.is("count(" + what + ")", tree.count(what), due[what]);
        }
        for (int what : new int[] {-1, 8, Integer.MIN_VALUE, Integer.MAX_VALUE}) {
            CHECK.refused("count(" + what + ")", () -> tree.count(what));
        }
        tree.drop(1);
        tree.drop(2);
        int[] later = {1, 1, 1, 0, 1, 1, 1, 5};
        for (int what = 0; what < later.length; what++) {
            CHECK.is("count(" + what + ") later", tree.count(what), later[what]);
        }
    }
}
