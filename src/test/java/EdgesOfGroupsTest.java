/** What the terms say of groups, masks, tiles and tops, sentence by sentence, at its edges. */
final class EdgesOfGroupsTest {
    private static final double BIT = 1.0 / 1048576.0;

    public static void main(String[] args) {
        Check check = new Check("edges of the terms, groups");
        check.sentence("a GROUP: one of its CHILDREN HAS it", EdgesOfGroupsTest::oneOfThem);
        check.sentence("in MODE 1, the first one must HAVE it", EdgesOfGroupsTest::firstMustHave);
        check.sentence("and another one, too (not just the first)", EdgesOfGroupsTest::anotherToo);
        check.sentence("in MODE 2 a is first brought to a - STEP * floor(a / STEP), b likewise",
                EdgesOfGroupsTest::tiles);
        check.sentence("(a tile's edges)", EdgesOfGroupsTest::cut);
        check.sentence("THE TOP of a GROUP at a point that it HAS: the last of its CHILDREN that HAS it",
                EdgesOfGroupsTest::lastOfThem);
        check.sentence("(in MODE 1 not the first)", EdgesOfGroupsTest::notTheFirst);
        check.sentence("or, if that is a GROUP, the TOP of that one", EdgesOfGroupsTest::topOfThat);
        check.end();
    }

    /** Boxes of 1 by 1, each 2.0 right of the one before, in the root or in the group 1. */
    private static SceneEasel row(int group, int boxes) {
        SceneEasel easel = Scenes.groupOf(0);
        for (int k = 0; k < boxes; k++) {
            int n = easel.node(group, 1, k + 2);
            easel.place(n, 2.0 * k, 0.0);
        }
        return easel;
    }

    private static void oneOfThem(Check check) {
        for (int group = 0; group <= 1; group++) {
            for (int boxes : new int[] {0, 1, 2, 12}) {
                SceneEasel easel = row(group, boxes);
                for (int k = 0; k < boxes; k++) {
                    check.has(easel, 2.0 * k, 0.0, k + 2);
                    check.has(easel, 2.0 * k + 1.0, 1.0, k + 2);
                    check.hasNot(easel, 2.0 * k - BIT, 0.0);
                    check.hasNot(easel, 2.0 * k + 1.0 + BIT, 0.0);
                }
                check.hasNot(easel, 2.0 * boxes, 0.0);
            }
        }
    }

    /** The mask is 2 by 2, the box behind it 8 by 8 round it. */
    private static SceneEasel masked(int group) {
        SceneEasel easel = Scenes.groupOf(0);
        easel.node(group, 1, 2);
        easel.lengths(2, 2.0, 2.0);
        easel.node(group, 1, 3);
        easel.place(3, -3.0, -3.0);
        easel.lengths(3, 8.0, 8.0);
        if (group == 0) {
            easel.remove(1);
        }
        easel.mode(group, 1, 1.0);
        return easel;
    }

    private static void firstMustHave(Check check) {
        for (int group = 0; group <= 1; group++) {
            SceneEasel easel = masked(group);
            for (double edge : new double[] {0.0, BIT, 2.0 - BIT, 2.0}) {
                check.has(easel, edge, 1.0, 3);
                check.has(easel, 1.0, edge, 3);
            }
            for (double out : new double[] {-BIT, 2.0 + BIT, -3.0, 5.0}) {
                check.hasNot(easel, out, 1.0);
                check.hasNot(easel, 1.0, out);
            }
            easel.hide(2, true);
            check.hasNot(easel, 1.0, 1.0);
            easel.hide(2, false);
            check.has(easel, 1.0, 1.0, 3);
            easel.into(2, group);
            check.has(easel, 1.0, 1.0, 2);
            check.hasNot(easel, -1.0, 1.0);
            easel.remove(3);
            check.hasNot(easel, 1.0, 1.0);
        }
    }

    private static void anotherToo(Check check) {
        for (int group = 0; group <= 1; group++) {
            SceneEasel easel = masked(group);
            easel.hide(3, true);
            check.hasNot(easel, 1.0, 1.0);
            easel.hide(3, false);
            easel.place(3, 1.0, 1.0);
            check.has(easel, 1.0, 1.0, 3);
            check.hasNot(easel, 1.0 - BIT, 1.0);
            easel.remove(3);
            check.hasNot(easel, 1.0, 1.0);
            easel.remove(2);
            check.hasNot(easel, 1.0, 1.0);
            check.due("paint(0.0)", easel.paint(0.0), 0);
        }
        SceneEasel second = masked(1);
        second.node(1, 1, 4);
        second.place(3, 50.0, 50.0);
        check.has(second, 1.0, 1.0, 4);
        check.hasNot(second, 1.0 + BIT, 1.0);
        second.place(4, 50.0, 50.0);
        check.hasNot(second, 50.5, 50.5);
    }

    /** The box fills the middle of a tile, so that each point beside its edges tells where the point was brought. */
    private static void tiles(Check check) {
        for (int group = 0; group <= 1; group++) {
            for (double step : new double[] {1.0, 2.5, 3.0, 32.0}) {
                SceneEasel easel = Scenes.groupOf(0);
                easel.node(group, 1, 2);
                easel.place(2, 0.25, 0.5);
                easel.lengths(2, 0.25, 0.25);
                easel.mode(group, 2, step);
                for (int tile : new int[] {-30, -2, -1, 0, 1, 2, 30}) {
                    double at = tile * step;
                    check.has(easel, at + 0.25, 0.5, 2);
                    check.has(easel, at + 0.5, 0.75 - at, 2);
                    check.has(easel, 0.25, at + 0.5, 2);
                    check.hasNot(easel, at + 0.25 - BIT, 0.5);
                    check.hasNot(easel, at + 0.5 + BIT, 0.5);
                    check.hasNot(easel, 0.25, at + 0.5 - BIT);
                    check.hasNot(easel, 0.25, at + 0.75 + BIT);
                }
            }
        }
    }

    /** A tile begins at a multiple of the step, which is its own, and ends right before the next one. */
    private static void cut(Check check) {
        SceneEasel easel = new SceneEasel();
        easel.node(0, 1, 1);
        easel.lengths(1, 0.125, 4.0);
        easel.node(0, 1, 2);
        easel.place(2, 2.875, 0.0);
        easel.lengths(2, 4.0, 4.0);
        easel.mode(0, 2, 3.0);
        for (double at : new double[] {-999.0, -6.0, -3.0, 0.0, 3.0, 6.0, 999.0}) {
            check.has(easel, at, 1.0, 1);
            check.has(easel, at + BIT, 1.0, 1);
            check.has(easel, at - BIT, 1.0, 2);
            check.has(easel, at - 0.125, 1.0, 2);
            check.hasNot(easel, at + 0.125 + BIT, 1.0);
            check.hasNot(easel, at - 0.125 - BIT, 1.0);
        }
        check.has(easel, -0.0, -0.0, 1);
        check.due("paint(0.0), no middle of a cell", easel.paint(0.0), 0);
    }

    private static void lastOfThem(Check check) {
        for (int boxes = 1; boxes <= 12; boxes++) {
            SceneEasel easel = Scenes.groupOf(boxes);
            for (int n = boxes + 1; n >= 2; n--) {
                check.has(easel, 0.5, 0.5, n);
                easel.hide(n, true);
            }
            check.hasNot(easel, 0.5, 0.5);
        }
        SceneEasel easel = Scenes.groupOf(3);
        easel.place(4, 0.5, 0.0);
        check.has(easel, 0.5, 0.5, 4);
        check.has(easel, 0.5 - BIT, 0.5, 3);
        easel.into(2, 1);
        check.has(easel, 0.5, 0.5, 2);
    }

    private static void notTheFirst(Check check) {
        SceneEasel easel = Scenes.groupOf(3);
        easel.mode(1, 1, 1.0);
        easel.place(4, 0.5, 0.0);
        check.has(easel, 0.5, 0.5, 4);
        check.has(easel, 0.5 - BIT, 0.5, 3);
        easel.hide(3, true);
        check.hasNot(easel, 0.5 - BIT, 0.5);
        check.has(easel, 0.5, 0.5, 4);
        easel.hide(4, true);
        check.hasNot(easel, 0.5, 0.5);
        easel.paint(0.0);
        check.due("cell(0, 0)", easel.cell(0, 0), 0);
    }

    private static void topOfThat(Check check) {
        for (int depth = 1; depth <= 4; depth++) {
            SceneEasel easel = Scenes.chain(depth);
            easel.node(0, 1, 2);
            easel.node(depth, 1, 3);
            easel.into(1, 0);
            int below = depth + 1;
            int inner = depth + 2;
            easel.place(inner, 0.5, 0.0);
            check.has(easel, 0.5, 0.5, inner);
            check.has(easel, 0.5 - BIT, 0.5, below);
            easel.hide(depth, true);
            check.has(easel, 0.5, 0.5, below);
            easel.hide(depth, false);
            easel.mode(depth, 1, 1.0);
            check.has(easel, 0.5, 0.5, below);
            easel.node(depth, 1, 4);
            check.has(easel, 0.5, 0.5, depth + 3);
            check.has(easel, 0.5 - BIT, 0.5, below);
        }
    }
}
