/** What the terms say of the box round a node, sentence by sentence, at its edges. */
final class EdgesOfBoxesTest {
    public static void main(String[] args) {
        Check check = new Check("edges of the terms, boxes");
        check.sentence("of a BOX or WEDGE that of the corners (0, 0) and (p, q)", EdgesOfBoxesTest::boxesAndWedges);
        check.sentence("of a DISC of (-p, -p) and (p, p)", EdgesOfBoxesTest::discs);
        check.sentence("laid out (times 2 to the power STRETCH, turned ... TURN times, (x, y) added)",
                EdgesOfBoxesTest::laidOut);
        check.sentence("of a GROUP the one round the BOXES ROUND all its CHILDREN", EdgesOfBoxesTest::groups);
        check.sentence("that aren't HIDDEN and have one", EdgesOfBoxesTest::seenAlone);
        check.sentence("MODE 1 and 2 don't matter", EdgesOfBoxesTest::modes);
        check.sentence("A GROUP without such has none.", EdgesOfBoxesTest::none);
        check.end();
    }

    private static void boxesAndWedges(Check check) {
        for (int kind : new int[] {1, 3}) {
            for (double p : new double[] {0.125, 1.0, 100.0}) {
                for (double q : new double[] {0.125, 1.0, 100.0}) {
                    check.box(Scenes.shape(kind, p, q), 1, 0.0, 0.0, 0.0, p, q);
                }
            }
        }
    }

    private static void discs(Check check) {
        for (double p : new double[] {0.125, 1.0, 100.0}) {
            for (double q : new double[] {0.125, 1.0, 100.0}) {
                check.box(Scenes.shape(2, p, q), 1, 0.0, -p, -p, p, p);
            }
        }
    }

    private static void laidOut(Check check) {
        double[] factors = {0.25, 0.5, 1.0, 2.0, 4.0};
        for (int stretch = -2; stretch <= 2; stretch++) {
            double p = 3.0 * factors[stretch + 2];
            double q = 2.0 * factors[stretch + 2];
            double[][] boxes = {{0.0, 0.0, p, q}, {-q, 0.0, 0.0, p}, {-p, -q, 0.0, 0.0}, {0.0, -p, q, 0.0}};
            for (int turn = 0; turn <= 3; turn++) {
                for (double x : new double[] {-100.0, 0.0, 0.125, 100.0}) {
                    double y = 0.5 - x;
                    if (y < -100.0 || y > 100.0) {
                        y = -x;
                    }
                    double[] box = boxes[turn];
                    double[] due = {box[0] + x, box[1] + y, box[2] + x, box[3] + y};
                    for (int kind : new int[] {1, 3}) {
                        SceneEasel easel = Scenes.shape(kind, 3.0, 2.0);
                        easel.place(1, x, y);
                        easel.lay(1, turn, stretch);
                        check.box(easel, 1, 0.0, due);
                        check.box(easel, 0, 0.0, due);
                    }
                    SceneEasel disc = Scenes.shape(2, 3.0, 2.0);
                    disc.place(1, x, y);
                    disc.lay(1, turn, stretch);
                    check.box(disc, 1, 0.0, x - p, y - p, x + p, y + p);
                }
            }
        }
    }

    /** One box, then one more that reaches out on one side by an eighth. */
    private static void groups(Check check) {
        SceneEasel one = Scenes.groupOf(1);
        one.lengths(2, 2.0, 2.0);
        check.box(one, 1, 0.0, 0.0, 0.0, 2.0, 2.0);
        double[][] places = {{-0.125, 0.5}, {0.5, -0.125}, {1.125, 0.5}, {0.5, 1.125}};
        for (int side = 0; side <= 3; side++) {
            double[] due = {0.0, 0.0, 2.0, 2.0};
            due[side] += side < 2 ? -0.125 : 0.125;
            for (int order = 0; order <= 1; order++) {
                SceneEasel easel = Scenes.groupOf(2);
                easel.lengths(2, 2.0, 2.0);
                easel.place(3, places[side][0], places[side][1]);
                easel.into(order == 0 ? 3 : 2, 1);
                check.box(easel, 1, 0.0, due);
                easel.place(3, 0.5, 0.5);
                check.box(easel, 1, 0.0, 0.0, 0.0, 2.0, 2.0);
            }
        }
        SceneEasel far = Scenes.groupOf(2);
        far.place(2, -100.0, -100.0);
        far.place(3, 100.0, 100.0);
        far.lay(1, 1, 2);
        far.place(1, 1.0, 2.0);
        check.box(far, 1, 0.0, -403.0, -398.0, 401.0, 406.0);
    }

    private static void seenAlone(Check check) {
        SceneEasel easel = Scenes.groupOf(3);
        easel.place(3, 10.0, 10.0);
        easel.place(4, -10.0, -10.0);
        check.box(easel, 1, 0.0, -10.0, -10.0, 11.0, 11.0);
        easel.hide(3, true);
        check.box(easel, 1, 0.0, -10.0, -10.0, 1.0, 1.0);
        easel.hide(4, true);
        check.box(easel, 1, 0.0, 0.0, 0.0, 1.0, 1.0);
        easel.hide(3, false);
        easel.hide(2, true);
        check.box(easel, 1, 0.0, 10.0, 10.0, 11.0, 11.0);
        easel.node(1, 0, 1);
        easel.place(5, 50.0, 50.0);
        check.box(easel, 1, 0.0, 10.0, 10.0, 11.0, 11.0);
        easel.node(5, 1, 1);
        check.box(easel, 1, 0.0, 10.0, 10.0, 51.0, 51.0);
        easel.hide(6, true);
        check.box(easel, 1, 0.0, 10.0, 10.0, 11.0, 11.0);
        easel.hide(6, false);
        easel.hide(5, true);
        check.box(easel, 1, 0.0, 10.0, 10.0, 11.0, 11.0);
    }

    /** In a mask the first one counts as all do, and alone, too; tiles count once, and what they cut counts. */
    private static void modes(Check check) {
        for (int mode = 0; mode <= 2; mode++) {
            SceneEasel easel = Scenes.groupOf(1);
            easel.place(2, 5.0, -5.0);
            easel.mode(1, mode, 1.0);
            easel.mode(0, mode, 1.0);
            check.box(easel, 1, 0.0, 5.0, -5.0, 6.0, -4.0);
            check.box(easel, 0, 0.0, 5.0, -5.0, 6.0, -4.0);
            easel.node(1, 2, 1);
            check.box(easel, 1, 0.0, -1.0, -5.0, 6.0, 1.0);
            check.box(easel, 0, 0.0, -1.0, -5.0, 6.0, 1.0);
            easel.hide(2, true);
            check.box(easel, 1, 0.0, -1.0, -1.0, 1.0, 1.0);
        }
    }

    private static void none(Check check) {
        check.nothingThere(() -> Scenes.groupOf(0), "around(1, 0, 0.0), empty", e -> e.around(1, 0, 0.0));
        check.nothingThere(() -> Scenes.groupOf(0), "around(0, 0, 0.0), an empty one in it", e -> e.around(0, 0, 0.0));
        for (int boxes = 1; boxes <= 3; boxes++) {
            SceneEasel easel = Scenes.groupOf(boxes);
            for (int n = 2; n <= boxes + 1; n++) {
                check.due("one left to see", easel.around(1, 2, 0.0), 1.0);
                easel.hide(n, true);
            }
            check.nothingThere("all hidden", easel, e -> e.around(1, 2, 0.0));
            check.nothingThere("the root, all hidden", easel, e -> e.around(0, 2, 0.0));
            easel.hide(2, false);
            check.due("one is seen again", easel.around(1, 2, 0.0), 1.0);
        }
        for (int mode = 0; mode <= 2; mode++) {
            SceneEasel easel = Scenes.chain(3);
            easel.mode(2, mode, 1.0);
            for (int n = 0; n <= 3; n++) {
                int any = n;
                check.nothingThere("empty ones in one another", easel, e -> e.around(any, 3, 0.0));
            }
        }
    }
}
