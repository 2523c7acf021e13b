/** The answers that README.md tells under 'Use'. */
public final class ReadmeTest {
    public static void main(String[] args) {
        Check check = new Check();
        NearTree tree = new NearTree(2);
        check.is("put", tree.put(7, 3, 4, 0, 0), 1);
        check.is("put", tree.put(8, 6, 8, 0, 0), 2);
        check.is("nearest", tree.nearest(1, 0, 0, 0, 0), 1);
        check.is("listed", tree.listed(0), 7);
        check.is("distance", tree.distance(0), 25);
        check.is("within", tree.within(100, 0, 0, 0, 0), 2);
        check.is("inBox", tree.inBox(0, 0, 5, 1, 0, 5), 1);
        check.is("pair", tree.pair(2), 25);
        check.is("parts", tree.parts(24), 2);
        check.is("span", tree.span(), 25);
        check.is("drop", tree.drop(7), 1);
        check.is("walk", tree.walk(0), -93);
        check.is("node", tree.node(8, 2), 7);
        check.is("count", tree.count(3), 1);
        check.end();
    }
}
