/** What the terms say of key frames, sentence by sentence, at its edges. */
final class EdgesOfFramesTest {
    private static final double NEXT = 1.0 / 1024.0;

    public static void main(String[] args) {
        Check check = new Check("edges of the terms, key frames");
        check.sentence("KEY FRAMES, at most 4 for each of the properties", EdgesOfFramesTest::atMost);
        check.sentence("of a NODE (not the ROOT)", EdgesOfFramesTest::notTheRoot);
        check.sentence("times rising", EdgesOfFramesTest::rising);
        check.sentence("a property with KEY FRAMES isn't what it was set to", EdgesOfFramesTest::notAsSet);
        check.sentence("before the first one, and at it, its value", EdgesOfFramesTest::first);
        check.sentence("behind the last one, and at it, that one's", EdgesOfFramesTest::last);
        check.sentence("between one (s, v) and the next (t, w) at time u: for x and y v + ROUNDED(...)",
                EdgesOfFramesTest::between);
        check.sentence("for the others v", EdgesOfFramesTest::jumping);
        check.sentence("A STRETCH's and COLOUR's value is a whole number in their range.", EdgesOfFramesTest::whole);
        check.end();
    }

    /** A box at (1, 1) that is 4.0 large, with the key frames of one property: times and values in turn. */
    private static SceneEasel keyed(int property, double... frames) {
        SceneEasel easel = Scenes.shape(1, 4.0, 4.0);
        easel.place(1, 1.0, 1.0);
        for (int k = 0; k < frames.length; k += 2) {
            easel.key(1, property, frames[k], frames[k + 1]);
        }
        return easel;
    }

    /** What the property is at the time. */
    private static double seen(SceneEasel easel, int property, double time) {
        if (property < 2) {
            return easel.around(1, property, time);
        }
        if (property == 2) {
            double size = easel.around(1, 2, time) - easel.around(1, 0, time);
            return size >= 16.0 ? 2 : size >= 8.0 ? 1 : size >= 4.0 ? 0 : size >= 2.0 ? -1 : -2;
        }
        easel.paint(time);
        return easel.cell(1, 1);
    }

    private static void atMost(Check check) {
        SceneEasel easel = Scenes.groupOf(1);
        for (int n = 1; n <= 2; n++) {
            int node = n;
            for (int property = 0; property <= 3; property++) {
                int any = property;
                for (int k = 1; k <= 4; k++) {
                    check.due("key number " + k, easel.key(n, property, k, 1.0), k);
                }
                check.due("key number 5", Check.outcome(easel, e -> e.key(node, any, 5.0, 1.0)),
                        "IllegalStateException");
                check.due("told(" + n + ", 4)", easel.told(n, 4), 4 * property + 4);
            }
        }
        check.due("count(1)", easel.count(1), 32);
    }

    private static void notTheRoot(Check check) {
        for (int property = 0; property <= 3; property++) {
            int any = property;
            check.bad(Scenes::rich, "key(0, " + property + ", 1.0, 1.0)", e -> e.key(0, any, 1.0, 1.0));
            check.bad(Scenes::rich, "unkey(0, " + property + ")", e -> e.unkey(0, any));
            check.fine(Scenes::rich, "key(1, " + property + ", 1.0, 1.0)", e -> e.key(1, any, 1.0, 1.0));
        }
    }

    /** All 24 orders in which four frames can come. */
    private static void rising(Check check) {
        for (int code = 0; code < 256; code++) {
            int[] order = {code % 4, code / 4 % 4, code / 16 % 4, code / 64};
            int all = 1 << order[0] | 1 << order[1] | 1 << order[2] | 1 << order[3];
            if (all == 15) {
                SceneEasel easel = keyed(1);
                for (int k : order) {
                    easel.key(1, 1, 8.0 * k, k * k);
                }
                for (int k = 0; k < 4; k++) {
                    check.due("at " + 8.0 * k, seen(easel, 1, 8.0 * k), (double) k * k);
                    check.due("behind it", seen(easel, 1, 8.0 * k + 4.0), k < 3 ? k * k + k + 0.5 : 9.0);
                }
            }
        }
    }

    private static void notAsSet(Check check) {
        double[] set = {1.0, 1.0, 0.0, 5.0};
        double[] setThen = {9.0, 9.0, 1.0, 5.0};
        for (int property = 0; property <= 3; property++) {
            SceneEasel easel = keyed(property);
            check.due("no frame", seen(easel, property, 3.0), set[property]);
            easel.key(1, property, 3.0, 2.0);
            check.due("one frame", seen(easel, property, 3.0), 2.0);
            if (property < 2) {
                easel.place(1, 9.0, 9.0);
            } else {
                easel.lay(1, 0, 1);
            }
            check.due("set behind it", seen(easel, property, 3.0), 2.0);
            easel.unkey(1, property);
            check.due("as set, the frame gone", seen(easel, property, 3.0), setThen[property]);
        }
    }

    private static void first(Check check) {
        for (int property = 0; property <= 3; property++) {
            for (int frames = 1; frames <= 2; frames++) {
                SceneEasel easel = frames == 1 ? keyed(property, 8.0, 2.0) : keyed(property, 8.0, 2.0, 9.0, 1.0);
                for (double time : new double[] {0.0, 7.0, Math.nextDown(8.0), 8.0}) {
                    check.due("property " + property + " at " + time, seen(easel, property, time), 2.0);
                }
                double behind = frames == 1 || property >= 2 ? 2.0 : 2.0 - 1.0 / 64.0;
                check.due("property " + property + " behind it", seen(easel, property, Math.nextUp(8.0)), behind);
            }
            SceneEasel zero = keyed(property, 0.0, 2.0, 64.0, 1.0);
            check.due("property " + property + " at 0.0", seen(zero, property, 0.0), 2.0);
            check.due("property " + property + " at -0.0", seen(zero, property, -0.0), 2.0);
        }
    }

    private static void last(Check check) {
        for (int property = 0; property <= 3; property++) {
            for (int frames = 1; frames <= 4; frames++) {
                SceneEasel easel = keyed(property);
                for (int k = 1; k <= frames; k++) {
                    easel.key(1, property, 8.0 * k, k == frames ? 1.0 : 2.0);
                }
                double at = 8.0 * frames;
                for (double time : new double[] {at, Math.nextUp(at), at + 1.0, 1000.0}) {
                    check.due("property " + property + " at " + time, seen(easel, property, time), 1.0);
                }
                double before = frames == 1 ? 1.0 : property < 2 ? 1.0 : 2.0;
                check.due("property " + property + " before it", seen(easel, property, at - NEXT), before);
            }
            SceneEasel end = keyed(property, 999.0, 2.0, 1000.0, 1.0);
            check.due("property " + property + " at 1000.0", seen(end, property, 1000.0), 1.0);
            check.due("property " + property + " at 999.0", seen(end, property, 999.0), 2.0);
        }
    }

    /** A frame in the middle belongs to both sides; the nearest times show which ones count. */
    private static void between(Check check) {
        for (int property = 0; property <= 1; property++) {
            SceneEasel easel = keyed(property, 8.0, 2.0, 16.0, 3.0, 32.0, -1.0, 33.0, -1.0);
            double[][] due = {{8.0, 2.0}, {8.0 + NEXT, 2.0}, {9.0, 2.125}, {16.0 - NEXT, 2.984375}, {16.0, 3.0},
                {16.0 + NEXT, 2.984375}, {17.0, 2.75}, {20.0, 2.0}, {32.0 - NEXT, -1.0}, {32.0, -1.0},
                {32.5, -1.0}, {33.0, -1.0}};
            for (double[] one : due) {
                check.due("property " + property + " at " + one[0], seen(easel, property, one[0]), one[1]);
            }
            SceneEasel third = keyed(property, 0.0, 0.0, 3.0, 1.0, 6.0, 0.0);
            check.due("a third up", seen(third, property, 1.0), 21.0 / 64.0);
            check.due("two thirds up", seen(third, property, 2.0), 42.0 / 64.0);
            check.due("a third down", seen(third, property, 4.0), 42.0 / 64.0);
            check.due("two thirds down", seen(third, property, 5.0), 21.0 / 64.0);
            SceneEasel widest = keyed(property, 0.0, -100.0, 1000.0, 100.0);
            check.due("an eighth of all time", seen(widest, property, 125.0), -75.0);
            check.due("hardly begun", seen(widest, property, NEXT), -100.0);
            check.due("hardly left", seen(widest, property, 1000.0 - NEXT), 100.0 - 1.0 / 64.0);
            SceneEasel narrow = keyed(property, 5.0, 1.0, 5.0 + NEXT, 9.0);
            check.due("half of a narrow way", seen(narrow, property, 5.0 + NEXT / 2.0), 5.0);
            SceneEasel narrowest = keyed(property, 5.0, 1.0, Math.nextUp(5.0), 9.0);
            check.due("the one", seen(narrowest, property, 5.0), 1.0);
            check.due("the next", seen(narrowest, property, Math.nextUp(5.0)), 9.0);
        }
    }

    private static void jumping(Check check) {
        for (int property = 2; property <= 3; property++) {
            SceneEasel easel = keyed(property, 8.0, 2.0, 16.0, 1.0, 32.0, 2.0);
            double[][] due = {{8.0, 2.0}, {12.0, 2.0}, {Math.nextDown(16.0), 2.0}, {16.0, 1.0},
                {Math.nextUp(16.0), 1.0}, {24.0, 1.0}, {Math.nextDown(32.0), 1.0}, {32.0, 2.0},
                {Math.nextUp(32.0), 2.0}};
            for (double[] one : due) {
                check.due("property " + property + " at " + one[0], seen(easel, property, one[0]), one[1]);
            }
        }
    }

    private static void whole(Check check) {
        for (double value : new double[] {-2.0, -1.0, -0.0, 0.0, 1.0, 2.0}) {
            check.due("stretch " + value, seen(keyed(2, 1.0, value), 2, 1.0) - value, 0.0);
        }
        for (double value : new double[] {-3.0, Math.nextDown(-2.0), Math.nextUp(-2.0), -1.5, -0.125, Double.MIN_VALUE,
            0.125, 0.5, Math.nextDown(1.0), Math.nextUp(1.0), Math.nextDown(2.0), Math.nextUp(2.0), 2.5, 3.0}) {
            check.bad(Scenes::rich, "key(5, 2, 1.0, " + value + ")", e -> e.key(5, 2, 1.0, value));
        }
        for (int colour = 1; colour <= 15; colour++) {
            check.due("colour " + colour, seen(keyed(3, 1.0, colour), 3, 1.0), (double) colour);
        }
        for (double value : new double[] {-1.0, 0.0, 0.5, Math.nextDown(1.0), Math.nextUp(1.0), 1.5, 7.125, 14.5,
            Math.nextDown(15.0), Math.nextUp(15.0), 15.5, 16.0}) {
            check.bad(Scenes::rich, "key(5, 3, 1.0, " + value + ")", e -> e.key(5, 3, 1.0, value));
        }
    }
}
