import java.util.ArrayList;
import java.util.Arrays;
import java.util.Comparator;
import java.util.List;

/**
 * The document's words in their plainest form, to compare the class with: nothing is kept that can be counted
 * anew, and a tree that is built anew has new nodes. Calls are told as rows: which one, then its numbers.
 */
final class PlainModel {
    static final int PUT = 0;
    static final int DROP = 1;
    static final int AT = 2;
    static final int NEAREST = 3;
    static final int WITHIN = 4;
    static final int LISTED = 5;
    static final int DISTANCE = 6;
    static final int LOOKED = 7;
    static final int IN_BOX = 8;
    static final int PAIR = 9;
    static final int PARTS = 10;
    static final int SPAN = 11;
    static final int NODE = 12;
    static final int WALK = 13;
    static final int COUNT = 14;

    private static final class Point {
        final int id;
        final int[] at;
        boolean live = true;

        Point(int id, int[] at) {
            this.id = id;
            this.at = at;
        }
    }

    private static final class Branch {
        final Point point;
        Branch left;
        Branch right;

        Branch(Point point) {
            this.point = point;
        }
    }

    private static final class Found {
        final int id;
        final long distance;

        Found(int id, long distance) {
            this.id = id;
            this.distance = distance;
        }
    }

    private static final Comparator<Found> BY_DISTANCE =
        Comparator.<Found>comparingLong(f -> f.distance).thenComparingInt(f -> f.id);

    private final int d;
    private Branch root;
    private List<Found> list = new ArrayList<>();
    private int looked;
    private int builtComing;
    private int builtGoing;
    private int builtPoints;

    PlainModel(int axes) {
        d = axes < 1 ? 1 : axes > 4 ? 4 : axes;
    }

    /** The answer, or the name of the exception. */
    String answer(long[] c) {
        try {
            return String.valueOf(call(c));
        } catch (RuntimeException e) {
            return e.getClass().getSimpleName();
        }
    }

    private long call(long[] c) {
        switch ((int) c[0]) {
            case PUT: return put((int) c[1], place(c, 2));
            case DROP: return drop((int) c[1]);
            case AT: return at((int) c[1], (int) c[2]);
            case NEAREST: return nearest((int) c[1], place(c, 2));
            case WITHIN: return within(c[1], place(c, 2));
            case LISTED: return found(c[1]).id;
            case DISTANCE: return found(c[1]).distance;
            case LOOKED: return looked;
            case IN_BOX: return inBox(c);
            case PAIR: return pair(c[1]);
            case PARTS: return parts(c[1]);
            case SPAN: return span();
            case NODE: return node((int) c[1], (int) c[2]);
            case WALK: return walk(c[1]);
            default: return count(c[1]);
        }
    }

    /** null if a number that counts is not as told. */
    private int[] place(long[] c, int from) {
        int[] at = new int[4];
        for (int axis = 0; axis < d; axis++) {
            if (Math.abs(c[from + axis]) > 10000) {
                return null;
            }
            at[axis] = (int) c[from + axis];
        }
        return at;
    }

    private static void argument(boolean good) {
        if (!good) {
            throw new IllegalArgumentException();
        }
    }

    private static void state(boolean good) {
        if (!good) {
            throw new IllegalStateException();
        }
    }

    private List<Branch> all() {
        List<Branch> all = new ArrayList<>();
        walkFrom(root, all);
        return all;
    }

    private static void walkFrom(Branch b, List<Branch> into) {
        if (b != null) {
            into.add(b);
            walkFrom(b.left, into);
            walkFrom(b.right, into);
        }
    }

    private List<Point> live() {
        List<Point> live = new ArrayList<>();
        for (Branch b : all()) {
            if (b.point.live) {
                live.add(b.point);
            }
        }
        live.sort(Comparator.comparingInt(p -> p.id));
        return live;
    }

    private Point liveOne(int id) {
        for (Point p : live()) {
            if (p.id == id) {
                return p;
            }
        }
        throw new IllegalStateException();
    }

    private static int size(Branch b) {
        return b == null ? 0 : 1 + size(b.left) + size(b.right);
    }

    private static int levels(Branch b) {
        return b == null ? 0 : 1 + Math.max(levels(b.left), levels(b.right));
    }

    private static Comparator<Point> less(int axis) {
        return Comparator.<Point>comparingInt(p -> p.at[axis]).thenComparingInt(p -> p.id);
    }

    private static long between(int[] a, int[] b) {
        long sum = 0;
        for (int axis = 0; axis < 4; axis++) {
            sum += (long) (a[axis] - b[axis]) * (a[axis] - b[axis]);
        }
        return sum;
    }

    private int put(int id, int[] at) {
        argument(id >= 0 && id <= 99 && at != null);
        List<Point> live = live();
        state(live.size() < 60);
        for (Point p : live) {
            state(p.id != id);
        }
        Point point = new Point(id, at);
        root = come(root, point, 0);
        root = rebuildFirst(root, point, 0);
        return live.size() + 1;
    }

    private Branch come(Branch b, Point p, int depth) {
        if (b == null) {
            return new Branch(p);
        }
        if (less(depth % d).compare(p, b.point) < 0) {
            b.left = come(b.left, p, depth + 1);
        } else {
            b.right = come(b.right, p, depth + 1);
        }
        return b;
    }

    private Branch rebuildFirst(Branch b, Point p, int depth) {
        if (b == null || b.point == p) {
            return b;
        }
        if (size(b.left) * 3 > size(b) * 2 || size(b.right) * 3 > size(b) * 2) {
            builtComing++;
            return anew(b, depth);
        }
        if (less(depth % d).compare(p, b.point) < 0) {
            b.left = rebuildFirst(b.left, p, depth + 1);
        } else {
            b.right = rebuildFirst(b.right, p, depth + 1);
        }
        return b;
    }

    private Branch anew(Branch b, int depth) {
        List<Branch> from = new ArrayList<>();
        walkFrom(b, from);
        List<Point> points = new ArrayList<>();
        for (Branch one : from) {
            if (one.point.live) {
                points.add(one.point);
            }
        }
        builtPoints += points.size();
        return built(points, depth);
    }

    private Branch built(List<Point> points, int depth) {
        if (points.isEmpty()) {
            return null;
        }
        List<Point> ordered = new ArrayList<>(points);
        ordered.sort(less(depth % d));
        int middle = ordered.size() / 2;
        Branch b = new Branch(ordered.get(middle));
        b.left = built(ordered.subList(0, middle), depth + 1);
        b.right = built(ordered.subList(middle + 1, ordered.size()), depth + 1);
        return b;
    }

    private int drop(int id) {
        argument(id >= 0 && id <= 99);
        liveOne(id).live = false;
        int live = live().size();
        if ((size(root) - live) * 2 > size(root)) {
            builtGoing++;
            root = anew(root, 0);
        }
        return live;
    }

    private int at(int id, int axis) {
        argument(id >= 0 && id <= 99 && axis >= 0 && axis <= 3);
        return liveOne(id).at[axis];
    }

    private int nearest(int k, int[] at) {
        argument(k >= 0 && k <= 100 && at != null);
        list = new ArrayList<>();
        looked = 0;
        look(root, 0, k, at);
        return list.size();
    }

    private void look(Branch b, int depth, int k, int[] p) {
        if (b == null) {
            return;
        }
        looked++;
        if (b.point.live) {
            list.add(new Found(b.point.id, between(p, b.point.at)));
            list.sort(BY_DISTANCE);
            if (list.size() > k) {
                list.remove(k);
            }
        }
        int axis = depth % d;
        boolean left = p[axis] < b.point.at[axis];
        look(left ? b.left : b.right, depth + 1, k, p);
        long gap = p[axis] - b.point.at[axis];
        if (k > 0 && (list.size() < k || gap * gap <= list.get(k - 1).distance)) {
            look(left ? b.right : b.left, depth + 1, k, p);
        }
    }

    private int within(long most, int[] at) {
        argument(most >= 0 && at != null);
        list = new ArrayList<>();
        for (Point p : live()) {
            if (between(p.at, at) <= most) {
                list.add(new Found(p.id, between(p.at, at)));
            }
        }
        list.sort(BY_DISTANCE);
        return list.size();
    }

    private Found found(long i) {
        if (i < 0 || i >= list.size()) {
            throw new IndexOutOfBoundsException();
        }
        return list.get((int) i);
    }

    private int inBox(long[] c) {
        argument(c[1] >= 0 && c[1] < d && c[4] >= 0 && c[4] < d);
        int found = 0;
        for (Point p : live()) {
            long first = p.at[(int) c[1]];
            long second = p.at[(int) c[4]];
            if (first >= c[2] && first <= c[3] && second >= c[5] && second <= c[6]) {
                found++;
            }
        }
        return found;
    }

    /** All pairs by DISTANCE, lesser ID, greater ID. */
    private List<long[]> pairs() {
        List<Point> live = live();
        List<long[]> pairs = new ArrayList<>();
        for (Point a : live) {
            for (Point b : live) {
                if (a.id < b.id) {
                    pairs.add(new long[] {a.id, b.id, between(a.at, b.at)});
                }
            }
        }
        pairs.sort(Comparator.<long[]>comparingLong(p -> p[2]).thenComparingLong(p -> p[0]).thenComparingLong(p -> p[1]));
        return pairs;
    }

    private long pair(long what) {
        argument(what >= 0 && what <= 2);
        List<long[]> pairs = pairs();
        state(!pairs.isEmpty());
        return pairs.get(0)[(int) what];
    }

    private int parts(long most) {
        argument(most >= 0);
        List<Point> left = live();
        int parts = 0;
        while (!left.isEmpty()) {
            parts++;
            List<Point> open = new ArrayList<>(List.of(left.remove(0)));
            while (!open.isEmpty()) {
                Point p = open.remove(0);
                for (int i = left.size() - 1; i >= 0; i--) {
                    if (between(p.at, left.get(i).at) <= most) {
                        open.add(left.remove(i));
                    }
                }
            }
        }
        return parts;
    }

    private long span() {
        int[] part = new int[100];
        Arrays.setAll(part, i -> i);
        long sum = 0;
        for (long[] pair : pairs()) {
            int from = part[(int) pair[0]];
            int to = part[(int) pair[1]];
            if (from != to) {
                sum += pair[2];
                Arrays.setAll(part, i -> part[i] == from ? to : part[i]);
            }
        }
        return sum;
    }

    private int node(int id, int what) {
        argument(id >= 0 && id <= 99 && what >= 0 && what <= 4);
        Point point = liveOne(id);
        Branch above = null;
        Branch b = root;
        int depth = 0;
        while (b.point != point) {
            above = b;
            b = less(depth % d).compare(point, b.point) < 0 ? b.left : b.right;
            depth++;
        }
        switch (what) {
            case 0: return depth;
            case 1: return size(b);
            case 2: return above == null ? -1 : above.point.id;
            case 3: return above == null || above.point.live ? 0 : 1;
            default: return above != null && above.left == b ? 1 : 0;
        }
    }

    private int walk(long k) {
        List<Branch> all = all();
        if (k < 0 || k >= all.size()) {
            throw new IndexOutOfBoundsException();
        }
        Point p = all.get((int) k).point;
        return p.live ? p.id : p.id - 100;
    }

    private int count(long what) {
        argument(what >= 0 && what <= 7);
        int[] counts = {d, live().size(), size(root), size(root) - live().size(), levels(root),
            builtComing, builtGoing, builtPoints};
        return counts[(int) what];
    }
}
