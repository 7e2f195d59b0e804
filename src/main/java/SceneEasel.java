import java.util.ArrayList;
import java.util.NoSuchElementException;

/**
 * An easel for moving pictures: a tree of groups and shapes with key frames,
 * painted cell by cell, asked point by point, and boxed.
 */
public final class SceneEasel {
    private static final int GROUP = 0;
    private static final int BOX = 1;
    private static final int DISC = 2;
    private static final int WEDGE = 3;

    private static final int MASK = 1;
    private static final int TILES = 2;

    private static final int X = 0;
    private static final int Y = 1;
    private static final int STRETCH = 2;
    private static final int COLOUR = 3;
    private static final int PROPERTIES = 4;

    private static final int MOST_NODES = 14;
    private static final int MOST_FRAMES = 4;
    private static final int DEEPEST = 5;
    private static final int MOST_STRETCH = 2;
    private static final int MOST_COLOUR = 15;
    private static final int MOST_LENGTH = 100;
    private static final int FARTHEST_PLACE = 100;
    private static final int FARTHEST_POINT = 1000;
    private static final int LONGEST_STEP = 32;
    private static final int LATEST = 1000;
    private static final int COLUMNS = 16;
    private static final int ROWS = 12;

    private final Node root;
    private final Node[] nodes = new Node[MOST_NODES];
    private final int[] cells = new int[COLUMNS * ROWS];
    private int paintings;

    public SceneEasel() {
        root = new Node(0, GROUP, 1);
        nodes[0] = root;
    }

    public int node(int group, int kind, int colour) throws IllegalArgumentException, IllegalStateException {
        Node parent = requireGroup(group);
        requireWithin(kind, GROUP, WEDGE);
        requireWithin(colour, 1, MOST_COLOUR);
        int number = leastFreeNumber();
        if (number == MOST_NODES) {
            throw new IllegalStateException("no room for another node");
        }
        if (parent.depth() >= DEEPEST) {
            throw new IllegalStateException("no room: too deep");
        }
        Node made = new Node(number, kind, colour);
        nodes[number] = made;
        made.hangInto(parent);
        return number;
    }

    public void lengths(int n, double p, double q) throws IllegalArgumentException {
        Node shape = requireShape(n);
        requireLength(p);
        requireLength(q);
        shape.p = p;
        shape.q = q;
    }

    public void place(int n, double x, double y) throws IllegalArgumentException {
        Node node = requireInner(n);
        requirePlace(x);
        requirePlace(y);
        node.x = x;
        node.y = y;
    }

    public void lay(int n, int turn, int stretch) throws IllegalArgumentException {
        Node node = requireInner(n);
        requireWithin(turn, 0, 3);
        requireWithin(stretch, -MOST_STRETCH, MOST_STRETCH);
        node.turn = turn;
        node.stretch = stretch;
    }

    public void mode(int group, int mode, double step) throws IllegalArgumentException {
        Node node = requireGroup(group);
        requireWithin(mode, 0, TILES);
        requireBetween(step, 1.0, LONGEST_STEP);
        node.mode = mode;
        node.step = step;
    }

    public void hide(int n, boolean on) throws IllegalArgumentException {
        requireInner(n).hidden = on;
    }

    public int key(int n, int property, double time, double value)
            throws IllegalArgumentException, IllegalStateException {
        Node node = requireInner(n);
        requireWithin(property, X, COLOUR);
        requireTime(time);
        requireValue(property, value);
        Track track = node.tracks[property];
        if (!track.put(time, value)) {
            throw new IllegalStateException("no room for another key frame");
        }
        return track.size;
    }

    public void unkey(int n, int property) throws IllegalArgumentException, NoSuchElementException {
        Node node = requireInner(n);
        requireWithin(property, X, COLOUR);
        Track track = node.tracks[property];
        if (track.size == 0) {
            throw new NoSuchElementException("no key frames");
        }
        track.size = 0;
    }

    public void into(int n, int group) throws IllegalArgumentException, IllegalStateException {
        Node node = requireInner(n);
        Node target = requireGroup(group);
        if (target.isIn(node)) {
            throw new IllegalStateException("a group can't be in itself");
        }
        if (target.depth() + levelsOf(node) > DEEPEST) {
            throw new IllegalStateException("no room: too deep");
        }
        node.unhang();
        node.hangInto(target);
    }

    public int remove(int n) throws IllegalArgumentException {
        Node gone = requireInner(n);
        int went = 0;
        for (int k = 0; k < MOST_NODES; k++) {
            // What is in the node still hangs in it here, so isIn finds it in any order of the numbers.
            if (nodes[k] != null && nodes[k].isIn(gone)) {
                nodes[k] = null;
                went++;
            }
        }
        gone.unhang();
        return went;
    }

    public int paint(double time) throws IllegalArgumentException {
        requireTime(time);
        settle(time);
        int coloured = 0;
        for (int j = 0; j < ROWS; j++) {
            for (int i = 0; i < COLUMNS; i++) {
                Node seen = root.topInside(i + 0.5, j + 0.5);
                cells[j * COLUMNS + i] = seen == null ? 0 : seen.nowColour;
                coloured += seen == null ? 0 : 1;
            }
        }
        paintings++;
        return coloured;
    }

    public int cell(int i, int j) throws IllegalArgumentException {
        requireWithin(i, 0, COLUMNS - 1);
        requireWithin(j, 0, ROWS - 1);
        return cells[j * COLUMNS + i];
    }

    public int top(double a, double b, double time) throws IllegalArgumentException, NoSuchElementException {
        requireBetween(a, -FARTHEST_POINT, FARTHEST_POINT);
        requireBetween(b, -FARTHEST_POINT, FARTHEST_POINT);
        requireTime(time);
        settle(time);
        Node seen = root.topInside(a, b);
        if (seen == null) {
            throw new NoSuchElementException("nothing lies there");
        }
        return seen.number;
    }

    public double around(int n, int side, double time) throws IllegalArgumentException, NoSuchElementException {
        Node node = requireNode(n);
        requireWithin(side, 0, 3);
        requireTime(time);
        settle(time);
        if (node == root) {
            node.measureInside();
        } else {
            node.measure();
        }
        if (node.extent.empty) {
            throw new NoSuchElementException("there is nothing to put a box round");
        }
        return node.extent.side(side);
    }

    public int told(int n, int what) throws IllegalArgumentException {
        Node node = requireNode(n);
        requireWithin(what, 0, 4);
        switch (what) {
            case 0:
                return node.kind;
            case 1:
                return node.parent == null ? -1 : node.parent.number;
            case 2:
                return node.children.size();
            case 3:
                return node.rank();
            default:
                return node.frames();
        }
    }

    public int count(int what) {
        switch (what) {
            case 0:
                return nodesThere();
            case 1:
                return framesThere();
            case 2:
                return paintings;
            case 3:
                return deepestIn(root);
            default:
                return -1;
        }
    }

    private Node requireNode(int n) {
        if (n < 0 || n >= MOST_NODES || nodes[n] == null) {
            throw new IllegalArgumentException("no such node");
        }
        return nodes[n];
    }

    private Node requireInner(int n) {
        Node node = requireNode(n);
        if (node == root) {
            throw new IllegalArgumentException("not for the root");
        }
        return node;
    }

    private Node requireGroup(int n) {
        Node node = requireNode(n);
        if (node.kind != GROUP) {
            throw new IllegalArgumentException("not a group");
        }
        return node;
    }

    private Node requireShape(int n) {
        Node node = requireNode(n);
        if (node.kind == GROUP) {
            throw new IllegalArgumentException("not a shape");
        }
        return node;
    }

    private static void requireWithin(int number, int least, int most) {
        if (number < least || number > most) {
            throw new IllegalArgumentException("a number out of range");
        }
    }

    private static void requireBetween(double number, double least, double most) {
        // Asked this way round, so that NaN is refused too.
        if (!(number >= least && number <= most)) {
            throw new IllegalArgumentException("a number out of range");
        }
    }

    private static void requireTime(double time) {
        requireBetween(time, 0.0, LATEST);
    }

    private static void requireLength(double length) {
        requireBetween(length, 0.125, MOST_LENGTH);
        requireMultiple(length, 8);
    }

    private static void requirePlace(double place) {
        requireBetween(place, -FARTHEST_PLACE, FARTHEST_PLACE);
        requireMultiple(place, 8);
    }

    private static void requireValue(int property, double value) {
        if (property == STRETCH) {
            requireBetween(value, -MOST_STRETCH, MOST_STRETCH);
            requireMultiple(value, 1);
        } else if (property == COLOUR) {
            requireBetween(value, 1.0, MOST_COLOUR);
            requireMultiple(value, 1);
        } else {
            requirePlace(value);
        }
    }

    /** The number is one of so many parts of a whole; it is known to be small. */
    private static void requireMultiple(double number, int parts) {
        double scaled = number * parts;
        if (scaled != (int) scaled) {
            throw new IllegalArgumentException("a number that is no such part of a whole");
        }
    }

    private int leastFreeNumber() {
        int number = 0;
        while (number < MOST_NODES && nodes[number] != null) {
            number++;
        }
        return number;
    }

    private int nodesThere() {
        int there = 0;
        for (int k = 0; k < MOST_NODES; k++) {
            there += nodes[k] == null ? 0 : 1;
        }
        return there;
    }

    private int framesThere() {
        int there = 0;
        for (int k = 0; k < MOST_NODES; k++) {
            there += nodes[k] == null ? 0 : nodes[k].frames();
        }
        return there;
    }

    /** The depth of what lies deepest in the node, or of the node if nothing is in it. */
    private int deepestIn(Node node) {
        int deepest = 0;
        for (int k = 0; k < MOST_NODES; k++) {
            if (nodes[k] != null && nodes[k].isIn(node)) {
                deepest = Math.max(deepest, nodes[k].depth());
            }
        }
        return deepest;
    }

    /** How many levels the node takes up, itself one of them. */
    private int levelsOf(Node node) {
        return deepestIn(node) - node.depth() + 1;
    }

    /** Works out once a call what the key frames say, since a painting asks each node for it in every cell. */
    private void settle(double time) {
        for (int k = 0; k < MOST_NODES; k++) {
            if (nodes[k] != null) {
                nodes[k].settleAt(time);
            }
        }
    }

    private static double floorOf(double number) {
        double towardsZero = (long) number;
        return towardsZero > number ? towardsZero - 1.0 : towardsZero;
    }

    private static double rounded(double number) {
        return floorOf(number * 64.0) / 64.0;
    }

    private static double powerOfTwo(int exponent) {
        double power = 1.0;
        for (int k = 0; k < exponent; k++) {
            power = power * 2.0;
        }
        for (int k = 0; k > exponent; k--) {
            power = power * 0.5;
        }
        return power;
    }

    /** The key frames of one property of one node, times rising. */
    private static final class Track {
        private final double[] times = new double[MOST_FRAMES];
        private final double[] values = new double[MOST_FRAMES];
        private int size;

        /** Answers false, and changes nothing, if there is no room. */
        private boolean put(double time, double value) {
            int at = 0;
            while (at < size && times[at] < time) {
                at++;
            }
            if (at == size || times[at] != time) {
                if (size == MOST_FRAMES) {
                    return false;
                }
                makeRoom(at);
            }
            times[at] = time;
            values[at] = value;
            return true;
        }

        private void makeRoom(int at) {
            for (int k = size; k > at; k--) {
                times[k] = times[k - 1];
                values[k] = values[k - 1];
            }
            size++;
        }

        /** The last frame at the time or before it; before all of them, the first one. */
        private int frameFor(double time) {
            int at = 0;
            for (int k = 1; k < size; k++) {
                if (times[k] <= time) {
                    at = k;
                }
            }
            return at;
        }

        private double jumping(double time, double unkeyed) {
            return size == 0 ? unkeyed : values[frameFor(time)];
        }

        private double gliding(double time, double unkeyed) {
            if (size == 0) {
                return unkeyed;
            }
            int at = frameFor(time);
            if (at + 1 >= size || time <= times[at]) {
                return values[at];
            }
            double span = times[at + 1] - times[at];
            if (span <= 0.0) {
                return values[at];
            }
            return values[at] + rounded((values[at + 1] - values[at]) * (time - times[at]) / span);
        }
    }

    /** A box with sides along the axes, or none. */
    private static final class Extent {
        private boolean empty = true;
        private double leastA;
        private double leastB;
        private double greatestA;
        private double greatestB;

        private void clear() {
            empty = true;
        }

        private void span(double fromA, double fromB, double toA, double toB) {
            empty = false;
            leastA = fromA;
            leastB = fromB;
            greatestA = toA;
            greatestB = toB;
        }

        private void join(Extent other) {
            if (other.empty) {
                return;
            }
            if (empty) {
                span(other.leastA, other.leastB, other.greatestA, other.greatestB);
                return;
            }
            leastA = other.leastA < leastA ? other.leastA : leastA;
            leastB = other.leastB < leastB ? other.leastB : leastB;
            greatestA = other.greatestA > greatestA ? other.greatestA : greatestA;
            greatestB = other.greatestB > greatestB ? other.greatestB : greatestB;
        }

        private void scale(double factor) {
            span(leastA * factor, leastB * factor, greatestA * factor, greatestB * factor);
        }

        private void turnOnce() {
            span(-greatestB, leastA, -leastB, greatestA);
        }

        private void shift(double x, double y) {
            span(leastA + x, leastB + y, greatestA + x, greatestB + y);
        }

        private double side(int side) {
            double value;
            switch (side) {
                case 0:
                    value = leastA;
                    break;
                case 1:
                    value = leastB;
                    break;
                case 2:
                    value = greatestA;
                    break;
                default:
                    value = greatestB;
                    break;
            }
            // A turned zero bears a sign, which must not be told.
            return value == 0.0 ? 0.0 : value;
        }
    }

    private static final class Node {
        private final int number;
        private final int kind;
        private final int colour;
        private final ArrayList<Node> children = new ArrayList<>();
        private final Track[] tracks = new Track[PROPERTIES];
        private final Extent extent = new Extent();
        private Node parent;
        private boolean hidden;
        private double p = 1.0;
        private double q = 1.0;
        private double x;
        private double y;
        private int turn;
        private int stretch;
        private int mode;
        private double step = 1.0;
        private double nowX;
        private double nowY;
        private int nowStretch;
        private int nowColour;

        private Node(int number, int kind, int colour) {
            this.number = number;
            this.kind = kind;
            this.colour = colour;
            for (int k = 0; k < PROPERTIES; k++) {
                tracks[k] = new Track();
            }
        }

        private void hangInto(Node group) {
            parent = group;
            group.children.add(this);
        }

        private void unhang() {
            int at = rank();
            if (parent != null && at < parent.children.size()) {
                parent.children.remove(at);
                parent = null;
            }
        }

        /** The place among the parent's children. */
        private int rank() {
            int at = 0;
            if (parent != null) {
                while (at < parent.children.size() && parent.children.get(at) != this) {
                    at++;
                }
            }
            return at;
        }

        private int depth() {
            int depth = 0;
            for (Node up = parent; up != null; up = up.parent) {
                depth++;
            }
            return depth;
        }

        /** A node counts as in itself. */
        private boolean isIn(Node other) {
            for (Node up = this; up != null; up = up.parent) {
                if (up == other) {
                    return true;
                }
            }
            return false;
        }

        private int frames() {
            int frames = 0;
            for (int k = 0; k < PROPERTIES; k++) {
                frames += tracks[k].size;
            }
            return frames;
        }

        private void settleAt(double time) {
            nowX = tracks[X].gliding(time, x);
            nowY = tracks[Y].gliding(time, y);
            nowStretch = (int) tracks[STRETCH].jumping(time, stretch);
            nowColour = (int) tracks[COLOUR].jumping(time, colour);
        }

        /**
         * The top shape at a point of the parent, or null if this node hasn't the point.
         * It calls itself no deeper than the tree is, which node and into keep low.
         */
        private Node topAt(double a, double b) {
            if (hidden) {
                return null;
            }
            double c = a - nowX;
            double d = b - nowY;
            for (int k = 0; k < turn; k++) {
                double turned = -c;
                c = d;
                d = turned;
            }
            double shrink = powerOfTwo(-nowStretch);
            if (kind == GROUP) {
                return topInside(c * shrink, d * shrink);
            }
            return covers(c * shrink, d * shrink) ? this : null;
        }

        /** The top shape at a point that is in this group already, or null. */
        private Node topInside(double a, double b) {
            double c = mode == TILES ? inTile(a) : a;
            double d = mode == TILES ? inTile(b) : b;
            if (mode == MASK && !firstHas(c, d)) {
                return null;
            }
            int lowest = mode == MASK ? 1 : 0;
            Node found = null;
            for (int k = children.size() - 1; k >= lowest && found == null; k--) {
                found = children.get(k).topAt(c, d);
            }
            return found;
        }

        private boolean firstHas(double a, double b) {
            return !children.isEmpty() && children.get(0).topAt(a, b) != null;
        }

        private double inTile(double a) {
            return step >= 1.0 ? a - step * floorOf(a / step) : a;
        }

        private boolean covers(double a, double b) {
            switch (kind) {
                case BOX:
                    return 0.0 <= a && a <= p && 0.0 <= b && b <= q;
                case DISC:
                    return a * a + b * b <= p * p;
                default:
                    return 0.0 <= a && 0.0 <= b && a * q + b * p <= p * q;
            }
        }

        /** Puts the extent round this node, in its parent; no deeper than the tree is, as topAt. */
        private void measure() {
            if (kind == GROUP) {
                measureInside();
            } else if (kind == DISC) {
                extent.span(-p, -p, p, p);
            } else {
                extent.span(0.0, 0.0, p, q);
            }
            if (!extent.empty) {
                layOutExtent();
            }
        }

        /** Puts the extent round what is in this group, as it is in it. */
        private void measureInside() {
            extent.clear();
            for (int k = 0; k < children.size(); k++) {
                Node child = children.get(k);
                if (!child.hidden) {
                    child.measure();
                    extent.join(child.extent);
                }
            }
        }

        private void layOutExtent() {
            extent.scale(powerOfTwo(nowStretch));
            for (int k = 0; k < turn; k++) {
                extent.turnOnce();
            }
            extent.shift(nowX, nowY);
        }
    }
}
