/** What the terms say of points and shapes, sentence by sentence, at its edges. */
final class EdgesOfPointsTest {
    private static final double BIT = 1.0 / 1048576.0;

    public static void main(String[] args) {
        Check check = new Check("edges of the terms, points");
        check.sentence("IN THE NODE: a - x, b - y", EdgesOfPointsTest::moved);
        check.sentence("turned back TURN times from (c, d) to (d, -c)", EdgesOfPointsTest::turned);
        check.sentence("both divided by 2 to the power STRETCH", EdgesOfPointsTest::stretched);
        check.sentence("A NODE HAS a point ... if it isn't HIDDEN", EdgesOfPointsTest::hidden);
        check.sentence("a BOX: 0 <= a <= p and 0 <= b <= q", EdgesOfPointsTest::boxes);
        check.sentence("a DISC: a * a + b * b <= p * p", EdgesOfPointsTest::discs);
        check.sentence("a WEDGE: 0 <= a, 0 <= b, a * q + b * p <= p * q", EdgesOfPointsTest::wedges);
        check.sentence("The ROOT is laid nowhere, its points are the picture's.", EdgesOfPointsTest::root);
        check.end();
    }

    /** Along one axis both edges and what is right between them are in, what is right beside them is out. */
    private static void along(Check check, SceneEasel easel, int axis, double other, double[] edges) {
        double[] in = {edges[0], edges[0] + BIT, edges[1] - BIT, edges[1]};
        double[] out = {edges[0] - BIT, edges[0] - 1.0, edges[1] + BIT, edges[1] + 1.0};
        for (double one : in) {
            check.has(easel, axis == 0 ? one : other, axis == 0 ? other : one, 1);
        }
        for (double one : out) {
            check.hasNot(easel, axis == 0 ? one : other, axis == 0 ? other : one);
        }
    }

    private static void moved(Check check) {
        for (double x : new double[] {-100.0, -0.125, 0.0, 0.125, 100.0}) {
            for (double y : new double[] {-100.0, -0.125, 0.0, 0.125, 100.0}) {
                SceneEasel easel = Scenes.shape(1, 2.0, 3.0);
                easel.place(1, x, y);
                along(check, easel, 0, y + 1.0, new double[] {x, x + 2.0});
                along(check, easel, 1, x + 1.0, new double[] {y, y + 3.0});
            }
        }
    }

    /** A wedge lies otherwise with every turn; its middle is on its slope. */
    private static void turned(Check check) {
        double[][] sharp = {{4.0, 0.0}, {0.0, 4.0}, {-4.0, 0.0}, {0.0, -4.0}};
        double[][] blunt = {{0.0, 2.0}, {-2.0, 0.0}, {0.0, -2.0}, {2.0, 0.0}};
        for (int turn = 0; turn <= 3; turn++) {
            SceneEasel easel = Scenes.shape(3, 4.0, 2.0);
            easel.lay(1, turn, 0);
            for (int other = 0; other <= 3; other++) {
                double a = sharp[other][0];
                double b = sharp[other][1];
                double c = blunt[other][0];
                double d = blunt[other][1];
                if (other == turn) {
                    check.has(easel, a, b, 1);
                    check.has(easel, c, d, 1);
                    check.has(easel, (a + c) / 2.0, (b + d) / 2.0, 1);
                    check.hasNot(easel, a * (1.0 + BIT), b * (1.0 + BIT));
                    check.hasNot(easel, c * (1.0 + BIT), d * (1.0 + BIT));
                    check.hasNot(easel, (a + c) / 2.0 * (1.0 + BIT), (b + d) / 2.0 * (1.0 + BIT));
                } else {
                    check.hasNot(easel, (a + c) / 2.0, (b + d) / 2.0);
                }
            }
        }
    }

    private static void stretched(Check check) {
        double[] factors = {0.25, 0.5, 1.0, 2.0, 4.0};
        for (int stretch = -2; stretch <= 2; stretch++) {
            double factor = factors[stretch + 2];
            SceneEasel easel = Scenes.shape(1, 4.0, 2.0);
            easel.lay(1, 0, stretch);
            along(check, easel, 0, factor, new double[] {0.0, 4.0 * factor});
            along(check, easel, 1, factor, new double[] {0.0, 2.0 * factor});
            SceneEasel moved = Scenes.shape(1, 4.0, 2.0);
            moved.place(1, 8.0, -8.0);
            moved.lay(1, 0, stretch);
            along(check, moved, 0, -8.0 + factor, new double[] {8.0, 8.0 + 4.0 * factor});
            along(check, moved, 1, 8.0 + factor, new double[] {-8.0, -8.0 + 2.0 * factor});
        }
    }

    private static void hidden(Check check) {
        SceneEasel easel = Scenes.groupOf(2);
        check.has(easel, 1.0, 1.0, 3);
        easel.hide(3, true);
        check.has(easel, 1.0, 1.0, 2);
        easel.hide(2, true);
        check.hasNot(easel, 1.0, 1.0);
        easel.hide(3, false);
        check.has(easel, 1.0, 1.0, 3);
        easel.hide(1, true);
        check.hasNot(easel, 1.0, 1.0);
        easel.into(3, 0);
        check.has(easel, 1.0, 1.0, 3);
    }

    private static void boxes(Check check) {
        for (double[] size : new double[][] {{0.125, 0.125}, {3.0, 1.5}, {1.5, 3.0}, {100.0, 100.0}}) {
            SceneEasel easel = Scenes.shape(1, size[0], size[1]);
            for (double other : new double[] {0.0, size[1]}) {
                along(check, easel, 0, other, new double[] {0.0, size[0]});
            }
            for (double other : new double[] {0.0, size[0]}) {
                along(check, easel, 1, other, new double[] {0.0, size[1]});
            }
            check.has(easel, -0.0, -0.0, 1);
            check.hasNot(easel, -Double.MIN_VALUE, 0.0);
            check.hasNot(easel, 0.0, -Double.MIN_VALUE);
            check.hasNot(easel, Math.nextUp(size[0]), 0.0);
            check.hasNot(easel, 0.0, Math.nextUp(size[1]));
        }
    }

    private static void discs(Check check) {
        for (double radius : new double[] {0.125, 5.0, 100.0}) {
            SceneEasel easel = Scenes.shape(2, radius, 1.0);
            along(check, easel, 0, 0.0, new double[] {-radius, radius});
            along(check, easel, 1, 0.0, new double[] {-radius, radius});
        }
        SceneEasel easel = Scenes.shape(2, 5.0, 1.0);
        for (int turn = 0; turn <= 3; turn++) {
            double a = turn == 0 || turn == 3 ? 3.0 : -3.0;
            double b = turn < 2 ? 4.0 : -4.0;
            check.has(easel, a, b, 1);
            check.has(easel, a * (1.0 - BIT), b, 1);
            check.has(easel, a, b * (1.0 - BIT), 1);
            check.hasNot(easel, a * (1.0 + BIT), b);
            check.hasNot(easel, a, b * (1.0 + BIT));
            check.hasNot(easel, a / 3.0 * 5.0, b / 4.0 * 5.0);
        }
    }

    private static void wedges(Check check) {
        for (double[] size : new double[][] {{0.125, 0.125}, {4.0, 2.0}, {2.0, 4.0}, {100.0, 100.0}, {0.125, 100.0}}) {
            SceneEasel easel = Scenes.shape(3, size[0], size[1]);
            along(check, easel, 0, 0.0, new double[] {0.0, size[0]});
            along(check, easel, 1, 0.0, new double[] {0.0, size[1]});
            along(check, easel, 0, size[1] / 2.0, new double[] {0.0, size[0] / 2.0});
            along(check, easel, 1, size[0] / 2.0, new double[] {0.0, size[1] / 2.0});
            check.hasNot(easel, size[0], size[1]);
            check.has(easel, -0.0, -0.0, 1);
            check.hasNot(easel, -Double.MIN_VALUE, 0.0);
            check.hasNot(easel, 0.0, -Double.MIN_VALUE);
        }
    }

    /** What is in the root is where it is placed, in the picture, too. */
    private static void root(Check check) {
        SceneEasel easel = Scenes.shape(1, 0.125, 0.125);
        easel.place(1, 3.5, 4.5);
        check.has(easel, 3.5, 4.5, 1);
        check.hasNot(easel, 3.5 - BIT, 4.5);
        check.hasNot(easel, 3.5, 4.5 - BIT);
        check.due("paint(0.0)", easel.paint(0.0), 1);
        check.due("cell(3, 4)", easel.cell(3, 4), 5);
        for (NodeCall call : new NodeCall[] {NodeCall.PLACE, NodeCall.LAY, NodeCall.KEY}) {
            check.bad(Scenes::rich, call + " of the root", e -> call.on(e, 0));
        }
    }
}
