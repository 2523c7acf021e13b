/**
 * Points of one to four axes in a tree that is split by one axis after the other.
 * The words in capitals are those of the document's Terms.
 */
public final class NearTree {
    public static final int NONE = -1;

    private static final int MOST_AXES = 4;
    private static final int IDS = 100;
    private static final int MOST_LIVE = 60;
    // DEAD NODES are never more than LIVE ones, or the root would have been BUILT ANEW.
    private static final int MOST_NODES = 2 * MOST_LIVE;
    private static final int FARTHEST = 10000;
    private static final int MOST_NEAREST = 100;

    private final int axes;
    private final Node[] liveById;
    private final Tree tree;
    private final NearList list;
    private final Joins joins;
    private int liveCount;
    private int lookedAt;
    private int builtByComing;
    private int builtByGoing;

    public NearTree(int axes) {
        this.axes = Math.max(1, Math.min(MOST_AXES, axes));
        this.liveById = new Node[IDS];
        this.tree = new Tree(this.axes);
        this.list = new NearList();
        this.joins = new Joins();
    }

    // ---- points

    public int put(int id, int x, int y, int z, int w) throws IllegalArgumentException, IllegalStateException {
        if (!isId(id) || !isPlace(x, y, z, w)) {
            throw new IllegalArgumentException("put: the id or a number that counts is out of range");
        }
        if (liveById[id] != null || liveCount >= MOST_LIVE) {
            throw new IllegalStateException("put: the id is live, or no more points can be");
        }
        Node node = new Node(id, new Place(axes, x, y, z, w));
        liveById[id] = node;
        liveCount++;
        tree.hang(node);
        Node leaning = tree.firstLeaningAbove(node);
        if (leaning != null) {
            builtByComing++;
            tree.buildAnew(leaning);
        }
        return liveCount;
    }

    public int drop(int id) throws IllegalArgumentException, IllegalStateException {
        if (!isId(id)) {
            throw new IllegalArgumentException("drop: the id is out of range");
        }
        Node node = liveById[id];
        if (node == null) {
            throw new IllegalStateException("drop: the id is not live");
        }
        node.dead = true;
        liveById[id] = null;
        liveCount--;
        if (deadCount() * 2 > tree.nodeCount()) {
            builtByGoing++;
            tree.buildAnew(tree.root);
        }
        return liveCount;
    }

    public int at(int id, int axis) throws IllegalArgumentException, IllegalStateException {
        if (!isId(id) || axis < 0 || axis >= MOST_AXES) {
            throw new IllegalArgumentException("at: the id or the axis is out of range");
        }
        Node node = liveById[id];
        if (node == null) {
            throw new IllegalStateException("at: the id is not live");
        }
        return node.place.number(axis);
    }

    // ---- searches

    public int nearest(int k, int x, int y, int z, int w) throws IllegalArgumentException {
        if (k < 0 || k > MOST_NEAREST || !isPlace(x, y, z, w)) {
            throw new IllegalArgumentException("nearest: k or a number that counts is out of range");
        }
        list.empty(k);
        Search search = new Search(new Place(axes, x, y, z, w), list);
        search.start(tree.root);
        lookedAt = search.nodes;
        return list.size;
    }

    public int within(long most, int x, int y, int z, int w) throws IllegalArgumentException {
        if (most < 0 || !isPlace(x, y, z, w)) {
            throw new IllegalArgumentException("within: most or a number that counts is out of range");
        }
        Place place = new Place(axes, x, y, z, w);
        list.empty(MOST_LIVE);
        for (Node node : liveById) {
            if (node != null) {
                long distance = node.place.distanceTo(place);
                if (distance <= most) {
                    list.offer(node.id, distance);
                }
            }
        }
        return list.size;
    }

    public int listed(int i) throws IndexOutOfBoundsException {
        if (!list.has(i)) {
            throw new IndexOutOfBoundsException("listed: no such place in the list");
        }
        return list.ids[i];
    }

    public long distance(int i) throws IndexOutOfBoundsException {
        if (!list.has(i)) {
            throw new IndexOutOfBoundsException("distance: no such place in the list");
        }
        return list.distances[i];
    }

    public int looked() {
        return lookedAt;
    }

    public int inBox(int axis, int low, int high, int axis2, int low2, int high2) throws IllegalArgumentException {
        if (!isCountingAxis(axis) || !isCountingAxis(axis2)) {
            throw new IllegalArgumentException("inBox: an axis does not count");
        }
        int found = 0;
        for (Node node : liveById) {
            if (node != null && node.place.isBetween(axis, low, high) && node.place.isBetween(axis2, low2, high2)) {
                found++;
            }
        }
        return found;
    }

    // ---- pairs and parts

    public long pair(int what) throws IllegalArgumentException, IllegalStateException {
        if (what < 0 || what > 2) {
            throw new IllegalArgumentException("pair: what is out of range");
        }
        if (liveCount < 2) {
            throw new IllegalStateException("pair: fewer than two points are live");
        }
        joins.findNearestPair(liveById);
        switch (what) {
            case 0:
                return joins.lesserId;
            case 1:
                return joins.greaterId;
            default:
                return joins.pairDistance;
        }
    }

    public int parts(long most) throws IllegalArgumentException {
        if (most < 0) {
            throw new IllegalArgumentException("parts: most is below 0");
        }
        joins.joinAll(liveById);
        return joins.partsWithin(most);
    }

    public long span() {
        joins.joinAll(liveById);
        return joins.sum();
    }

    // ---- the tree

    public int node(int id, int what) throws IllegalArgumentException, IllegalStateException {
        if (!isId(id) || what < 0 || what > 4) {
            throw new IllegalArgumentException("node: the id or what is out of range");
        }
        Node node = liveById[id];
        if (node == null) {
            throw new IllegalStateException("node: the id is not live");
        }
        Node above = node.above;
        switch (what) {
            case 0:
                return node.depth;
            case 1:
                return node.size;
            case 2:
                return above == null ? NONE : above.id;
            case 3:
                return above != null && above.dead ? 1 : 0;
            default:
                return above != null && above.left == node ? 1 : 0;
        }
    }

    public int walk(int k) throws IndexOutOfBoundsException {
        Node node = k < 0 ? null : Tree.nodeOnWalk(tree.root, k);
        if (node == null) {
            throw new IndexOutOfBoundsException("walk: no such node");
        }
        return node.dead ? node.id - IDS : node.id;
    }

    public int count(int what) throws IllegalArgumentException {
        switch (what) {
            case 0:
                return axes;
            case 1:
                return liveCount;
            case 2:
                return tree.nodeCount();
            case 3:
                return deadCount();
            case 4:
                return tree.levels();
            case 5:
                return builtByComing;
            case 6:
                return builtByGoing;
            case 7:
                return tree.builtPoints;
            default:
                throw new IllegalArgumentException("count: what is out of range");
        }
    }

    private static boolean isId(int id) {
        return id >= 0 && id < IDS;
    }

    private boolean isCountingAxis(int axis) {
        return axis >= 0 && axis < axes;
    }

    private boolean isPlace(int x, int y, int z, int w) {
        return isNumber(x) && (axes < 2 || isNumber(y)) && (axes < 3 || isNumber(z)) && (axes < 4 || isNumber(w));
    }

    private static boolean isNumber(int number) {
        return number >= -FARTHEST && number <= FARTHEST;
    }

    private int deadCount() {
        return tree.nodeCount() - liveCount;
    }

    /** Four numbers, 0 where the axis does not count, so that every axis may be summed. */
    private static final class Place {
        final int x;
        final int y;
        final int z;
        final int w;

        Place(int axes, int x, int y, int z, int w) {
            this.x = x;
            this.y = axes > 1 ? y : 0;
            this.z = axes > 2 ? z : 0;
            this.w = axes > 3 ? w : 0;
        }

        int number(int axis) {
            switch (axis) {
                case 0:
                    return x;
                case 1:
                    return y;
                case 2:
                    return z;
                default:
                    return w;
            }
        }

        long distanceTo(Place other) {
            return square(x - other.x) + square(y - other.y) + square(z - other.z) + square(w - other.w);
        }

        boolean isBetween(int axis, int low, int high) {
            int number = number(axis);
            return number >= low && number <= high;
        }

        static long square(long number) {
            return number * number;
        }
    }

    /** A NODE and its POINT: they never part, so a NODE that is BUILT ANEW is only linked anew. */
    private static final class Node {
        final int id;
        final Place place;
        boolean dead;
        int depth;
        int axis;
        int size;
        Node above;
        Node left;
        Node right;

        Node(int id, Place place) {
            this.id = id;
            this.place = place;
            this.size = 1;
        }

        boolean isLess(Node other, int byAxis) {
            int mine = place.number(byAxis);
            int theirs = other.place.number(byAxis);
            return mine < theirs || (mine == theirs && id < other.id);
        }

        Node sideOf(Node point) {
            return point.isLess(this, axis) ? left : right;
        }

        boolean leans() {
            return Math.max(sizeOf(left), sizeOf(right)) * 3 > size * 2;
        }

        static int sizeOf(Node node) {
            return node == null ? 0 : node.size;
        }
    }

    private static final class Tree {
        private final int axes;
        private final Node[] row;
        Node root;
        int builtPoints;

        Tree(int axes) {
            this.axes = axes;
            this.row = new Node[MOST_LIVE];
        }

        int nodeCount() {
            return Node.sizeOf(root);
        }

        void hang(Node node) {
            Node above = null;
            Node next = root;
            while (next != null) {
                above = next;
                above.size++;
                next = above.sideOf(node);
            }
            if (above == null) {
                root = node;
                return;
            }
            node.above = above;
            node.depth = above.depth + 1;
            node.axis = axisBehind(above.axis);
            if (node.isLess(above, above.axis)) {
                above.left = node;
            } else {
                above.right = node;
            }
        }

        /** The first NODE from the root on that leans, on the way of one that was just hung; null without. */
        Node firstLeaningAbove(Node node) {
            Node onWay = root;
            while (onWay != null && onWay != node) {
                if (onWay.leans()) {
                    return onWay;
                }
                onWay = onWay.sideOf(node);
            }
            return null;
        }

        void buildAnew(Node old) {
            if (old == null) {
                return;
            }
            Node above = old.above;
            boolean wasLeft = above != null && above.left == old;
            int oldSize = old.size;
            int live = gatherLive(old);
            Node built = build(0, live, old.depth, old.axis, above);
            if (above == null) {
                root = built;
            } else if (wasLeft) {
                above.left = built;
            } else {
                above.right = built;
            }
            for (Node higher = above; higher != null; higher = higher.above) {
                higher.size -= oldSize - live;
            }
            builtPoints += live;
        }

        private int gatherLive(Node from) {
            int live = 0;
            for (int k = 0; k < from.size && live < row.length; k++) {
                Node node = nodeOnWalk(from, k);
                if (node != null && !node.dead) {
                    row[live] = node;
                    live++;
                }
            }
            return live;
        }

        /** Makes the row's part a tree; halving ends it after some six levels, the depth guards it anyway. */
        private Node build(int from, int to, int depth, int axis, Node above) {
            if (from < 0 || from >= to || to > row.length || depth >= MOST_NODES) {
                return null;
            }
            order(from, to, axis);
            int middle = from + (to - from) / 2;
            Node node = row[middle];
            if (node == null) {
                return null;
            }
            node.above = above;
            node.depth = depth;
            node.axis = axis;
            node.size = to - from;
            int nextAxis = axisBehind(axis);
            node.left = build(from, middle, depth + 1, nextAxis, node);
            node.right = build(middle + 1, to, depth + 1, nextAxis, node);
            return node;
        }

        private void order(int from, int to, int axis) {
            for (int next = from + 1; next < to; next++) {
                Node node = row[next];
                int place = next;
                while (place > from && isAhead(node, row[place - 1], axis)) {
                    row[place] = row[place - 1];
                    place--;
                }
                row[place] = node;
            }
        }

        private static boolean isAhead(Node node, Node other, int axis) {
            return node != null && other != null && node.isLess(other, axis);
        }

        private int axisBehind(int axis) {
            return axis + 1 < axes ? axis + 1 : 0;
        }

        /** The k-th NODE from one on, itself, then its left, then its right; null where there is none. */
        static Node nodeOnWalk(Node from, int k) {
            Node node = from;
            int ahead = k;
            while (node != null && ahead > 0) {
                ahead--;
                int leftSize = Node.sizeOf(node.left);
                if (ahead < leftSize) {
                    node = node.left;
                } else {
                    ahead -= leftSize;
                    node = node.right;
                }
            }
            return node;
        }

        int levels() {
            int levels = 0;
            int nodes = nodeCount();
            for (int k = 0; k < nodes; k++) {
                Node node = nodeOnWalk(root, k);
                if (node != null) {
                    levels = Math.max(levels, node.depth + 1);
                }
            }
            return levels;
        }
    }

    /** THE LIST: by DISTANCES, then IDS, with a limit that the latest search set. */
    private static final class NearList {
        final int[] ids;
        final long[] distances;
        int size;
        private int limit;

        NearList() {
            this.ids = new int[MOST_NEAREST];
            this.distances = new long[MOST_NEAREST];
        }

        void empty(int newLimit) {
            size = 0;
            limit = Math.max(0, Math.min(ids.length, newLimit));
        }

        boolean has(int i) {
            return i >= 0 && i < size;
        }

        boolean isFull() {
            return size >= limit;
        }

        void offer(int id, long distance) {
            if (limit < 1 || (isFull() && !isAhead(id, distance, limit - 1))) {
                return;
            }
            int place = isFull() ? limit - 1 : size;
            size = place + 1;
            while (place > 0 && isAhead(id, distance, place - 1)) {
                ids[place] = ids[place - 1];
                distances[place] = distances[place - 1];
                place--;
            }
            ids[place] = id;
            distances[place] = distance;
        }

        /** Whether what lies at the distance could not come into the list any more, whatever its ID. */
        boolean shutsOut(long distance) {
            return isFull() && (size < 1 || distance > distances[size - 1]);
        }

        private boolean isAhead(int id, long distance, int i) {
            return distance < distances[i] || (distance == distances[i] && id < ids[i]);
        }
    }

    /** A SEARCH for the nearest ones of a place. */
    private static final class Search {
        private final Place place;
        private final NearList list;
        int nodes;

        Search(Place place, NearList list) {
            this.place = place;
            this.list = list;
        }

        void start(Node root) {
            nodes = 0;
            lookAt(root, 0);
        }

        /** The depth guards what calls itself: a tree of MOST_NODES at most has no NODE as deep as that. */
        private void lookAt(Node node, int depth) {
            if (node == null || depth >= MOST_NODES) {
                return;
            }
            nodes++;
            if (!node.dead) {
                list.offer(node.id, place.distanceTo(node.place));
            }
            int gap = place.number(node.axis) - node.place.number(node.axis);
            lookAt(gap < 0 ? node.left : node.right, depth + 1);
            if (!list.shutsOut(Place.square(gap))) {
                lookAt(gap < 0 ? node.right : node.left, depth + 1);
            }
        }
    }

    /** What joins LIVE POINTS: the nearest pair, and the least joins of all, whose lengths tell parts and span. */
    private static final class Joins {
        private final Node[] points;
        private final long[] lengths;
        private int size;
        int lesserId;
        int greaterId;
        long pairDistance;

        Joins() {
            this.points = new Node[MOST_LIVE];
            this.lengths = new long[MOST_LIVE];
        }

        private void gather(Node[] liveById) {
            size = 0;
            for (Node node : liveById) {
                if (node != null && size < points.length) {
                    points[size] = node;
                    size++;
                }
            }
        }

        /** Goes by rising IDS, so that of several pairs the first one found is due. */
        void findNearestPair(Node[] liveById) {
            pairDistance = Long.MAX_VALUE;
            for (int lesser = 0; lesser < liveById.length; lesser++) {
                for (int greater = lesser + 1; greater < liveById.length; greater++) {
                    comparePair(liveById[lesser], liveById[greater]);
                }
            }
        }

        private void comparePair(Node lesser, Node greater) {
            if (lesser == null || greater == null) {
                return;
            }
            long distance = lesser.place.distanceTo(greater.place);
            if (distance < pairDistance) {
                pairDistance = distance;
                lesserId = lesser.id;
                greaterId = greater.id;
            }
        }

        /** From one point on the nearest one not joined yet is joined: lengths[i] is what joins points[i], from 1 on. */
        void joinAll(Node[] liveById) {
            gather(liveById);
            for (int i = 0; i < size; i++) {
                lengths[i] = Long.MAX_VALUE;
            }
            for (int joined = 1; joined < size; joined++) {
                reachFrom(points[joined - 1], joined);
                swap(joined, leastFrom(joined));
            }
        }

        private void reachFrom(Node from, int first) {
            for (int i = first; i < size; i++) {
                Node to = points[i];
                if (from != null && to != null) {
                    lengths[i] = Math.min(lengths[i], from.place.distanceTo(to.place));
                }
            }
        }

        private int leastFrom(int first) {
            int least = first;
            for (int i = first + 1; i < size; i++) {
                if (lengths[i] < lengths[least]) {
                    least = i;
                }
            }
            return least;
        }

        private void swap(int i, int j) {
            Node point = points[i];
            points[i] = points[j];
            points[j] = point;
            long length = lengths[i];
            lengths[i] = lengths[j];
            lengths[j] = length;
        }

        /** Of the least joins those that are too long part what they join, and no other pair joins it shorter. */
        int partsWithin(long most) {
            int parts = size > 0 ? 1 : 0;
            for (int i = 1; i < size; i++) {
                if (lengths[i] > most) {
                    parts++;
                }
            }
            return parts;
        }

        long sum() {
            long sum = 0;
            for (int i = 1; i < size; i++) {
                sum += lengths[i];
            }
            return sum;
        }
    }
}
