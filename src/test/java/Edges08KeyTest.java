/** Promise 8, sentence by sentence, at its edges. */
final class Edges08KeyTest {
    private static final double[][] VALUES = {{-100.0, 100.0}, {-100.0, 100.0}, {-2.0, 2.0}, {1.0, 15.0}};
    private static final double[] GRAINS = {0.125, 0.125, 1.0, 1.0};

    public static void main(String[] args) {
        Check check = new Check("edges of promise 8");
        check.sentence("property 0 .. 3", Edges08KeyTest::properties);
        check.sentence("time 0.0 .. 1000.0", Edges08KeyTest::times);
        check.sentence("the value as for place, lay and node (whole ones for 2 and 3)", Edges08KeyTest::values);
        check.sentence("One of the same time is replaced", Edges08KeyTest::replaced);
        check.sentence("else 4 are there: no room", Edges08KeyTest::full);
        check.sentence("Answers how many there are.", Edges08KeyTest::answers);
        check.end();
    }

    private static void properties(Check check) {
        Range.ofWhole(check, Scenes::rich, "key(5, ?, 1.0, 1.0)", 0, 3, (e, property) -> e.key(5, property, 1.0, 1.0));
        Range.ofWhole(check, Scenes::rich, "key(1, ?, 1.0, 1.0)", 0, 3, (e, property) -> e.key(1, property, 1.0, 1.0));
        for (int n : new int[] {-1, 0, 13, 14, Integer.MIN_VALUE, Integer.MAX_VALUE}) {
            check.bad(Scenes::rich, "key(" + n + ", 0, 1.0, 1.0)", e -> e.key(n, 0, 1.0, 1.0));
        }
    }

    private static void times(Check check) {
        for (int property = 0; property <= 3; property++) {
            int any = property;
            Range.ofNumber(check, Scenes::rich, "key(5, " + property + ", ?, 1.0)", 0.0, 1000.0,
                    (e, time) -> e.key(5, any, time, 1.0));
        }
        SceneEasel easel = Scenes.shape(1, 1.0, 1.0);
        easel.key(1, 0, 0.0, 1.0);
        easel.key(1, 0, 1000.0, 2.0);
        check.due("around(1, 0, 0.0)", easel.around(1, 0, 0.0), 1.0);
        check.due("around(1, 0, 1000.0)", easel.around(1, 0, 1000.0), 2.0);
        check.due("around(1, 0, 999.0)", easel.around(1, 0, 999.0), 1.0 + 63.0 / 64.0);
    }

    private static void values(Check check) {
        for (int property = 0; property <= 3; property++) {
            int any = property;
            Range.ofGrains(check, Scenes::rich, "key(5, " + property + ", 1.0, ?)", VALUES[property], GRAINS[property],
                    (e, value) -> e.key(5, any, 1.0, value));
        }
        for (double x : new double[] {-100.0, -99.875, -0.125, 0.0, 0.125, 99.875, 100.0}) {
            SceneEasel easel = Scenes.shape(1, 1.0, 1.0);
            easel.key(1, 0, 1.0, x);
            easel.key(1, 1, 1.0, -x);
            check.due("least a", easel.around(1, 0, 1.0), x);
            check.due("least b", easel.around(1, 1, 1.0), x == 0.0 ? 0.0 : -x);
        }
        double size = 1.0;
        for (int stretch = -2; stretch <= 2; stretch++) {
            SceneEasel easel = Scenes.shape(1, 4.0, 4.0);
            easel.key(1, 2, 1.0, stretch);
            check.due("greatest a", easel.around(1, 2, 1.0), size);
            size = size * 2.0;
        }
        for (int colour = 1; colour <= 15; colour++) {
            SceneEasel easel = Scenes.shape(1, 1.0, 1.0);
            easel.key(1, 3, 1.0, colour);
            easel.paint(1.0);
            check.due("cell(0, 0)", easel.cell(0, 0), colour);
        }
    }

    /** The nearest times on both sides are other ones. */
    private static void replaced(Check check) {
        for (double time : new double[] {0.0, 5.0, 1000.0}) {
            SceneEasel easel = Scenes.shape(1, 1.0, 1.0);
            easel.key(1, 0, time, 1.0);
            check.due("key at the same time", easel.key(1, 0, time, 7.0), 1);
            check.due("its value", easel.around(1, 0, time), 7.0);
            check.due("told(1, 4)", easel.told(1, 4), 1);
            double near = time == 1000.0 ? Math.nextDown(time) : Math.nextUp(time);
            check.due("key at the next time", easel.key(1, 0, near, 9.0), 2);
            check.due("the next one's value", easel.around(1, 0, near), 9.0);
            check.due("its value still", easel.around(1, 0, time), 7.0);
        }
        SceneEasel easel = Scenes.shape(1, 1.0, 1.0);
        easel.key(1, 0, 0.0, 1.0);
        check.due("a zero's sign makes no other time", easel.key(1, 0, -0.0, 2.0), 1);
        for (int k = 1; k <= 4; k++) {
            SceneEasel full = keyed(3, 4);
            check.due("key(1, 3, " + k * 5.0 + ", 9.0), full", full.key(1, 3, k * 5.0, 9.0), 4);
            check.due("count(1)", full.count(1), 4);
            for (int other = 1; other <= 4; other++) {
                full.paint(other * 5.0);
                check.due("the colour at " + other * 5.0, full.cell(0, 0), other == k ? 9 : other % 2 + 1);
            }
        }
    }

    private static void full(Check check) {
        for (int property = 0; property <= 3; property++) {
            int any = property;
            for (double time : new double[] {0.0, 2.5, 10.5, 1000.0, Math.nextDown(20.0), Math.nextUp(20.0)}) {
                check.fine(() -> keyed(any, 3), "the fourth at " + time, e -> e.key(1, any, time, 2.0));
                check.noRoom(() -> keyed(any, 4), "the fifth at " + time, e -> e.key(1, any, time, 2.0));
            }
            check.fine(() -> keyed(any, 4), "of another property", e -> e.key(1, (any + 1) % 4, 0.0, 1.0));
            check.fine(() -> keyed(any, 4), "of another node", e -> e.key(e.node(0, 1, 1), any, 0.0, 1.0));
            check.bad(() -> keyed(any, 4), "full, a wrong time", e -> e.key(1, any, 1000.125, 1.0));
            check.bad(() -> keyed(any, 4), "full, a wrong value", e -> e.key(1, any, 0.0, -101.0));
            SceneEasel easel = keyed(property, 4);
            easel.unkey(1, property);
            check.due("there is room behind unkey", easel.key(1, property, 0.0, 1.0), 1);
        }
    }

    /** A box with some key frames of the property, at 5.0, 10.0, 15.0 and 20.0. */
    private static SceneEasel keyed(int property, int frames) {
        SceneEasel easel = Scenes.shape(1, 1.0, 1.0);
        for (int k = frames; k > 0; k--) {
            easel.key(1, property, k * 5.0, k % 2 + 1.0);
        }
        return easel;
    }

    private static void answers(Check check) {
        for (int property = 0; property <= 3; property++) {
            SceneEasel easel = Scenes.shape(1, 1.0, 1.0);
            easel.key(1, (property + 1) % 4, 3.0, 1.0);
            for (int k = 1; k <= 4; k++) {
                check.due("a new one", easel.key(1, property, k, 1.0), k);
                check.due("replaced", easel.key(1, property, k, 2.0), k);
                check.due("told(1, 4)", easel.told(1, 4), k + 1);
            }
        }
    }
}
