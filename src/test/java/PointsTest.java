/** Promises 1 to 4: a new object, put, drop, at. */
public final class PointsTest {
    private static final Check CHECK = new Check();

    public static void main(String[] args) {
        newObject();
        putAnswersLive();
        putRefuses();
        putKeepsOnlyWhatCounts();
        putIsFullAtSixty();
        dropAnswersLive();
        dropRefuses();
        atTellsNumbers();
        CHECK.end();
    }

    private static void newObject() {
        int[][] axes = {{Integer.MIN_VALUE, 1}, {-1, 1}, {0, 1}, {1, 1}, {2, 2}, {3, 3}, {4, 4}, {5, 4}, {Integer.MAX_VALUE, 4}};
        for (int[] told : axes) {
            NearTree tree = new NearTree(told[0]);
            CHECK.is("axes of NearTree(" + told[0] + ")", tree.count(0), told[1]);
            for (int what = 1; what <= 7; what++) {
                CHECK.is("count(" + what + ") of a new one", tree.count(what), 0);
            }
        }
        CHECK.is("NONE", NearTree.NONE, -1);
    }

    private static void putAnswersLive() {
        NearTree tree = new NearTree(2);
        CHECK.is("first", tree.put(0, 1, 1, 0, 0), 1);
        CHECK.is("second", tree.put(99, 1, 1, 0, 0), 2);
        CHECK.is("at the rim", tree.put(50, -10000, 10000, 0, 0), 3);
        CHECK.is("live", tree.count(1), 3);
        tree.drop(0);
        CHECK.is("an ID that went comes again", tree.put(0, 7, 8, 0, 0), 3);
        CHECK.is("with its new place", tree.at(0, 1), 8);
    }

    private static void putRefuses() {
        for (int d = 1; d <= 4; d++) {
            NearTree tree = new NearTree(d);
            CHECK.refused("ID -1", () -> tree.put(-1, 0, 0, 0, 0));
            CHECK.refused("ID 100", () -> tree.put(100, 0, 0, 0, 0));
            CHECK.refused("ID least", () -> tree.put(Integer.MIN_VALUE, 0, 0, 0, 0));
            for (int axis = 0; axis < d; axis++) {
                for (int number : new int[] {10001, -10001, Integer.MAX_VALUE, Integer.MIN_VALUE}) {
                    int[] p = new int[4];
                    p[axis] = number;
                    CHECK.refused("number " + number + " by " + axis, () -> tree.put(5, p[0], p[1], p[2], p[3]));
                }
            }
            CHECK.is("nothing came", tree.count(2), 0);
            tree.put(5, 1, 1, 1, 1);
            CHECK.badState("ID is live", () -> tree.put(5, 2, 2, 2, 2));
            CHECK.refused("the number goes ahead of the live ID", () -> tree.put(5, 10001, 0, 0, 0));
            CHECK.is("still one", tree.count(1), 1);
            CHECK.is("one node", tree.count(2), 1);
            CHECK.is("its number stays", tree.at(5, 0), 1);
        }
    }

    private static void putKeepsOnlyWhatCounts() {
        for (int d = 1; d <= 4; d++) {
            NearTree tree = new NearTree(d);
            int far = Integer.MAX_VALUE;
            tree.put(3, 4, d > 1 ? 5 : far, d > 2 ? 6 : far, d > 3 ? 7 : far);
            for (int axis = 0; axis < 4; axis++) {
                CHECK.is("at(3, " + axis + ") of " + d, tree.at(3, axis), axis < d ? 4 + axis : 0);
            }
        }
    }

    private static void putIsFullAtSixty() {
        NearTree tree = new NearTree(3);
        for (int id = 0; id < 60; id++) {
            CHECK.is("put " + id, tree.put(id, id * 37 % 61, id * 11 % 23, id, 0), id + 1);
        }
        CHECK.badState("a sixty-first", () -> tree.put(60, 0, 0, 0, 0));
        CHECK.refused("a wrong ID goes ahead of being full", () -> tree.put(100, 0, 0, 0, 0));
        CHECK.refused("a wrong number goes ahead of being full", () -> tree.put(60, 0, 0, 10001, 0));
        CHECK.is("60 live", tree.count(1), 60);
        tree.drop(17);
        CHECK.is("room again, though a DEAD node stands", tree.put(60, 0, 0, 0, 0), 60);
        CHECK.badState("full again", () -> tree.put(17, 0, 0, 0, 0));
    }

    private static void dropAnswersLive() {
        NearTree tree = new NearTree(1);
        tree.put(1, 0, 0, 0, 0);
        tree.put(2, 0, 0, 0, 0);
        CHECK.is("one left", tree.drop(1), 1);
        CHECK.is("none left", tree.drop(2), 0);
        CHECK.is("no nodes", tree.count(2), 0);
    }

    private static void dropRefuses() {
        NearTree tree = new NearTree(1);
        CHECK.refused("drop(-1)", () -> tree.drop(-1));
        CHECK.refused("drop(100)", () -> tree.drop(100));
        CHECK.badState("drop of what never came", () -> tree.drop(0));
        tree.put(0, 0, 0, 0, 0);
        tree.put(1, 1, 0, 0, 0);
        tree.drop(0);
        CHECK.badState("drop of a DEAD one", () -> tree.drop(0));
        CHECK.is("it changed nothing", tree.count(3), 1);
        CHECK.is("one is live", tree.count(1), 1);
    }

    private static void atTellsNumbers() {
        NearTree tree = new NearTree(4);
        tree.put(8, -1, 20, -300, 10000);
        CHECK.is("x", tree.at(8, 0), -1);
        CHECK.is("y", tree.at(8, 1), 20);
        CHECK.is("z", tree.at(8, 2), -300);
        CHECK.is("w", tree.at(8, 3), 10000);
        CHECK.refused("axis -1", () -> tree.at(8, -1));
        CHECK.refused("axis 4", () -> tree.at(8, 4));
        CHECK.refused("ID -1", () -> tree.at(-1, 0));
        CHECK.refused("ID 100", () -> tree.at(100, 0));
        CHECK.refused("the axis goes ahead of the state", () -> tree.at(9, 4));
        CHECK.badState("never came", () -> tree.at(9, 0));
        tree.put(9, 0, 0, 0, 0);
        tree.drop(8);
        CHECK.badState("went", () -> tree.at(8, 0));
    }
}
