import java.math.BigDecimal;
import java.math.BigInteger;
import java.math.RoundingMode;
import java.util.ArrayList;
import java.util.List;
import java.util.Map;
import java.util.NoSuchElementException;
import java.util.TreeMap;

/** The document's terms word by word, with exact numbers, however slow: what ModelTest holds the program against. */
final class ModelEasel {
    private static final BigDecimal ZERO = BigDecimal.ZERO;

    private static final class Item {
        int kind;
        int colour;
        Item parent;
        final List<Item> children = new ArrayList<>();
        BigDecimal x = ZERO;
        BigDecimal y = ZERO;
        BigDecimal p = BigDecimal.ONE;
        BigDecimal q = BigDecimal.ONE;
        BigDecimal step = BigDecimal.ONE;
        int turn;
        int stretch;
        int mode;
        boolean hidden;
        final List<TreeMap<BigDecimal, BigDecimal>> keys = new ArrayList<>();

        Item() {
            for (int k = 0; k < 4; k++) {
                keys.add(new TreeMap<>());
            }
        }
    }

    private record Point(BigDecimal a, BigDecimal b) {
    }

    private final Map<Integer, Item> items = new TreeMap<>();
    private int[][] cells = new int[16][12];
    private int paintings;

    ModelEasel() {
        items.put(0, new Item());
    }

    private static void bad(boolean when) {
        if (when) {
            throw new IllegalArgumentException();
        }
    }

    private static void full(boolean when) {
        if (when) {
            throw new IllegalStateException();
        }
    }

    private static void range(double value, double least, double most, double parts) {
        bad(Double.isNaN(value) || value < least || value > most);
        bad(parts > 0.0 && Math.rint(value * parts) != value * parts);
    }

    private Item item(int n) {
        bad(!items.containsKey(n));
        return items.get(n);
    }

    private Item inner(int n) {
        bad(n == 0);
        return item(n);
    }

    private Item group(int n) {
        bad(item(n).kind != 0);
        return item(n);
    }

    private int numberOf(Item item) {
        for (Map.Entry<Integer, Item> entry : items.entrySet()) {
            if (entry.getValue() == item) {
                return entry.getKey();
            }
        }
        return -1;
    }

    private static int depth(Item item) {
        return item.parent == null ? 0 : 1 + depth(item.parent);
    }

    private static int height(Item item) {
        int height = 0;
        for (Item child : item.children) {
            height = Math.max(height, 1 + height(child));
        }
        return height;
    }

    private static void gather(Item item, List<Item> all) {
        all.add(item);
        for (Item child : item.children) {
            gather(child, all);
        }
    }

    int node(int group, int kind, int colour) {
        Item parent = group(group);
        range(kind, 0, 3, 1);
        range(colour, 1, 15, 1);
        full(items.size() == 14 || depth(parent) == 5);
        int number = 0;
        while (items.containsKey(number)) {
            number++;
        }
        Item item = new Item();
        item.kind = kind;
        item.colour = colour;
        item.parent = parent;
        parent.children.add(item);
        items.put(number, item);
        return number;
    }

    int lengths(int n, double p, double q) {
        Item item = item(n);
        bad(item.kind == 0);
        range(p, 0.125, 100.0, 8);
        range(q, 0.125, 100.0, 8);
        item.p = new BigDecimal(p);
        item.q = new BigDecimal(q);
        return 0;
    }

    int place(int n, double x, double y) {
        Item item = inner(n);
        range(x, -100.0, 100.0, 8);
        range(y, -100.0, 100.0, 8);
        item.x = new BigDecimal(x);
        item.y = new BigDecimal(y);
        return 0;
    }

    int lay(int n, int turn, int stretch) {
        Item item = inner(n);
        range(turn, 0, 3, 1);
        range(stretch, -2, 2, 1);
        item.turn = turn;
        item.stretch = stretch;
        return 0;
    }

    int mode(int n, int mode, double step) {
        Item item = group(n);
        range(mode, 0, 2, 1);
        range(step, 1.0, 32.0, 0);
        item.mode = mode;
        item.step = new BigDecimal(step);
        return 0;
    }

    int hide(int n, boolean on) {
        inner(n).hidden = on;
        return 0;
    }

    int key(int n, int property, double time, double value) {
        Item item = inner(n);
        range(property, 0, 3, 1);
        range(time, 0.0, 1000.0, 0);
        double[][] ranges = {{-100.0, 100.0, 8}, {-100.0, 100.0, 8}, {-2, 2, 1}, {1, 15, 1}};
        range(value, ranges[property][0], ranges[property][1], ranges[property][2]);
        TreeMap<BigDecimal, BigDecimal> keys = item.keys.get(property);
        full(keys.size() == 4 && !keys.containsKey(new BigDecimal(time)));
        keys.put(new BigDecimal(time), new BigDecimal(value));
        return keys.size();
    }

    int unkey(int n, int property) {
        Item item = inner(n);
        range(property, 0, 3, 1);
        if (item.keys.get(property).isEmpty()) {
            throw new NoSuchElementException();
        }
        item.keys.get(property).clear();
        return 0;
    }

    int into(int n, int group) {
        Item item = inner(n);
        Item target = group(group);
        List<Item> inside = new ArrayList<>();
        gather(item, inside);
        full(inside.contains(target) || depth(target) + 1 + height(item) > 5);
        item.parent.children.remove(item);
        item.parent = target;
        target.children.add(item);
        return 0;
    }

    int remove(int n) {
        Item item = inner(n);
        List<Item> inside = new ArrayList<>();
        gather(item, inside);
        item.parent.children.remove(item);
        items.values().removeAll(inside);
        return inside.size();
    }

    private static BigDecimal at(Item item, int property, BigDecimal unkeyed, BigDecimal u) {
        TreeMap<BigDecimal, BigDecimal> keys = item.keys.get(property);
        if (keys.isEmpty()) {
            return unkeyed;
        }
        Map.Entry<BigDecimal, BigDecimal> from = keys.floorEntry(u);
        Map.Entry<BigDecimal, BigDecimal> to = keys.higherEntry(u);
        if (from == null) {
            return to.getValue();
        }
        if (to == null || property >= 2) {
            return from.getValue();
        }
        BigDecimal way = to.getValue().subtract(from.getValue()).multiply(u.subtract(from.getKey()));
        BigDecimal span = to.getKey().subtract(from.getKey());
        return from.getValue().add(part(floor(way.multiply(new BigDecimal(64)), span), 64));
    }

    private static BigDecimal part(BigInteger number, int parts) {
        return new BigDecimal(number).divide(new BigDecimal(parts));
    }

    private static BigInteger floor(BigDecimal number, BigDecimal divisor) {
        return number.divide(divisor, 0, RoundingMode.FLOOR).toBigInteger();
    }

    private static BigDecimal power(int exponent) {
        return new BigDecimal(Math.scalb(1.0, exponent));
    }

    private static Point inNode(Item item, Point point, BigDecimal time) {
        BigDecimal c = point.a.subtract(at(item, 0, item.x, time));
        BigDecimal d = point.b.subtract(at(item, 1, item.y, time));
        for (int k = 0; k < item.turn; k++) {
            BigDecimal old = c;
            c = d;
            d = old.negate();
        }
        BigDecimal factor = power(at(item, 2, new BigDecimal(item.stretch), time).intValueExact());
        return new Point(c.divide(factor), d.divide(factor));
    }

    private static Point inTile(Item group, Point point) {
        if (group.mode != 2) {
            return point;
        }
        BigDecimal step = group.step;
        return new Point(point.a.subtract(step.multiply(new BigDecimal(floor(point.a, step)))),
                point.b.subtract(step.multiply(new BigDecimal(floor(point.b, step)))));
    }

    private static boolean has(Item item, Point ofParent, BigDecimal time) {
        if (item.hidden) {
            return false;
        }
        Point point = item.parent == null ? ofParent : inNode(item, ofParent, time);
        BigDecimal a = point.a;
        BigDecimal b = point.b;
        boolean positive = a.signum() >= 0 && b.signum() >= 0;
        switch (item.kind) {
            case 1:
                return positive && a.compareTo(item.p) <= 0 && b.compareTo(item.q) <= 0;
            case 2:
                return a.multiply(a).add(b.multiply(b)).compareTo(item.p.multiply(item.p)) <= 0;
            case 3:
                return positive
                        && a.multiply(item.q).add(b.multiply(item.p)).compareTo(item.p.multiply(item.q)) <= 0;
            default:
                return groupHas(item, inTile(item, point), time);
        }
    }

    private static boolean groupHas(Item group, Point point, BigDecimal time) {
        int having = 0;
        for (Item child : group.children) {
            having += has(child, point, time) ? 1 : 0;
        }
        if (group.mode == 1) {
            return having >= 2 && has(group.children.get(0), point, time);
        }
        return having >= 1;
    }

    private static Item topOf(Item group, Point ofParent, BigDecimal time) {
        Point point = inTile(group, group.parent == null ? ofParent : inNode(group, ofParent, time));
        Item last = null;
        for (int k = group.mode == 1 ? 1 : 0; k < group.children.size(); k++) {
            Item child = group.children.get(k);
            last = has(child, point, time) ? child : last;
        }
        return last.kind == 0 ? topOf(last, point, time) : last;
    }

    private Item seen(double a, double b, double time) {
        Point point = new Point(new BigDecimal(a), new BigDecimal(b));
        BigDecimal exactTime = new BigDecimal(time);
        return has(items.get(0), point, exactTime) ? topOf(items.get(0), point, exactTime) : null;
    }

    int paint(double time) {
        range(time, 0.0, 1000.0, 0);
        int coloured = 0;
        for (int i = 0; i < 16; i++) {
            for (int j = 0; j < 12; j++) {
                Item item = seen(i + 0.5, j + 0.5, time);
                cells[i][j] = item == null ? 0
                        : at(item, 3, new BigDecimal(item.colour), new BigDecimal(time)).intValueExact();
                coloured += cells[i][j] == 0 ? 0 : 1;
            }
        }
        paintings++;
        return coloured;
    }

    int cell(int i, int j) {
        range(i, 0, 15, 1);
        range(j, 0, 11, 1);
        return cells[i][j];
    }

    int top(double a, double b, double time) {
        range(a, -1000.0, 1000.0, 0);
        range(b, -1000.0, 1000.0, 0);
        range(time, 0.0, 1000.0, 0);
        Item item = seen(a, b, time);
        if (item == null) {
            throw new NoSuchElementException();
        }
        return numberOf(item);
    }

    /** The corners of the box round an item, in its parent; none if there is no box. */
    private static List<Point> corners(Item item, BigDecimal time) {
        List<Point> inside = new ArrayList<>();
        if (item.kind == 0) {
            for (Item child : item.children) {
                if (!child.hidden) {
                    inside.addAll(corners(child, time));
                }
            }
        } else if (item.kind == 2) {
            inside.add(new Point(item.p.negate(), item.p.negate()));
            inside.add(new Point(item.p, item.p));
        } else {
            inside.add(new Point(ZERO, ZERO));
            inside.add(new Point(item.p, item.q));
        }
        List<Point> outside = new ArrayList<>();
        for (Point point : inside) {
            outside.add(item.parent == null ? point : laidOut(item, point, time));
        }
        return outside;
    }

    private static Point laidOut(Item item, Point point, BigDecimal time) {
        BigDecimal factor = power(at(item, 2, new BigDecimal(item.stretch), time).intValueExact());
        BigDecimal c = point.a.multiply(factor);
        BigDecimal d = point.b.multiply(factor);
        for (int k = 0; k < item.turn; k++) {
            BigDecimal old = c;
            c = d.negate();
            d = old;
        }
        return new Point(c.add(at(item, 0, item.x, time)), d.add(at(item, 1, item.y, time)));
    }

    double around(int n, int side, double time) {
        Item item = item(n);
        range(side, 0, 3, 1);
        range(time, 0.0, 1000.0, 0);
        List<Point> corners = corners(item, new BigDecimal(time));
        if (corners.isEmpty()) {
            throw new NoSuchElementException();
        }
        BigDecimal best = null;
        for (Point point : corners) {
            BigDecimal one = side % 2 == 0 ? point.a : point.b;
            best = best == null ? one : side < 2 ? best.min(one) : best.max(one);
        }
        return best.doubleValue();
    }

    int told(int n, int what) {
        Item item = item(n);
        range(what, 0, 4, 1);
        switch (what) {
            case 0:
                return item.kind;
            case 1:
                return item.parent == null ? -1 : numberOf(item.parent);
            case 2:
                return item.children.size();
            case 3:
                return item.parent == null ? 0 : item.parent.children.indexOf(item);
            default:
                return keysOf(item);
        }
    }

    private static int keysOf(Item item) {
        int all = 0;
        for (TreeMap<BigDecimal, BigDecimal> keys : item.keys) {
            all += keys.size();
        }
        return all;
    }

    int count(int what) {
        switch (what) {
            case 0:
                return items.size();
            case 1:
                return items.values().stream().mapToInt(ModelEasel::keysOf).sum();
            case 2:
                return paintings;
            case 3:
                return height(items.get(0));
            default:
                return -1;
        }
    }
}
