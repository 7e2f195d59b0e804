final class Promise06ModeTest {
    public static void main(String[] args) {
        Check check = new Check("promise 6, mode");
        mask(check, 0);
        mask(check, 1);
        maskOfGroups(check);
        tiles(check, 0);
        tiles(check, 1);
        laidTiles(check);
        steps(check);
        wrongInputs(check);
        check.end();
    }

    /** The root, or a group in it, with a mask of 4 by 4 in front of two boxes that reach out of it. */
    private static void mask(Check check, int group) {
        SceneEasel easel = new SceneEasel();
        easel.node(0, 0, 1);
        for (int n = 2; n <= 4; n++) {
            easel.node(group, 1, n);
            easel.lengths(n, 4.0, 4.0);
        }
        easel.place(3, 2.0, 2.0);
        easel.place(4, 3.0, 0.0);
        if (group == 0) {
            easel.remove(1);
        }
        easel.mode(group, 1, 1.0);
        check.due("mask and box", easel.top(2.5, 2.5, 0.0), 3);
        check.due("mask and the last box", easel.top(3.5, 2.5, 0.0), 4);
        check.nothingThere("the mask alone", easel, e -> e.top(1.0, 1.0, 0.0));
        check.nothingThere("two boxes without the mask", easel, e -> e.top(5.0, 3.0, 0.0));
        easel.hide(2, true);
        check.nothingThere("a hidden mask", easel, e -> e.top(2.5, 2.5, 0.0));
        easel.hide(2, false);
        easel.remove(4);
        easel.remove(3);
        check.nothingThere("a mask and no other", easel, e -> e.top(1.0, 1.0, 0.0));
        easel.remove(2);
        check.nothingThere("a mask group without children", easel, e -> e.top(1.0, 1.0, 0.0));
        easel.node(group, 1, 1);
        easel.mode(group, 0, 1.0);
        check.due("plain again", easel.top(0.5, 0.5, 0.0) > 0, true);
    }

    /** The first is a group; what it has is the mask, its own top does not matter. */
    private static void maskOfGroups(Check check) {
        SceneEasel easel = new SceneEasel();
        easel.node(0, 0, 1);
        easel.mode(1, 1, 1.0);
        easel.node(1, 0, 1);
        easel.node(2, 1, 3);
        easel.node(2, 1, 4);
        easel.place(4, 5.0, 0.0);
        easel.node(1, 0, 1);
        easel.node(5, 1, 6);
        easel.lengths(6, 10.0, 1.0);
        check.due("in the first window", easel.top(0.5, 0.5, 0.0), 6);
        check.due("in the second window", easel.top(5.5, 0.5, 0.0), 6);
        check.nothingThere("between the windows", easel, e -> e.top(2.5, 0.5, 0.0));
        easel.mode(2, 1, 1.0);
        check.nothingThere("a mask that hasn't it itself", easel, e -> e.top(0.5, 0.5, 0.0));
        easel.mode(2, 0, 1.0);
        easel.into(2, 1);
        check.due("the mask put last is no mask", easel.top(5.5, 0.5, 0.0), 4);
    }

    private static void tiles(Check check, int group) {
        SceneEasel easel = new SceneEasel();
        easel.node(0, 0, 1);
        easel.node(group, 1, 2);
        easel.lengths(2, 1.0, 2.0);
        easel.mode(group, 2, 3.0);
        double[][] hits = {{0.0, 0.0}, {1.0, 2.0}, {3.0, 3.0}, {4.0, 5.0}, {-3.0, -1.0}, {-2.0, -3.0}, {999.5, 300.5},
            {-999.0, -998.0}};
        double[][] misses = {{1.125, 0.0}, {0.5, 2.125}, {2.875, 0.0}, {-0.125, 0.0}, {-1.0, 0.0}, {5.0, 5.0}};
        for (double[] hit : hits) {
            check.due("tiles at " + hit[0] + ", " + hit[1], easel.top(hit[0], hit[1], 0.0), 2);
        }
        for (double[] miss : misses) {
            check.nothingThere("tiles at " + miss[0] + ", " + miss[1], easel, e -> e.top(miss[0], miss[1], 0.0));
        }
        check.due("paint(0.0)", easel.paint(0.0), 6 * 8);
        easel.place(2, 2.5, 0.0);
        check.nothingThere("what reaches over the tile's end is cut", easel, e -> e.top(3.25, 0.5, 0.0));
        easel.place(2, -0.5, 0.0);
        check.nothingThere("what reaches out before the tile is cut", easel, e -> e.top(2.75, 0.5, 0.0));
        check.due("the rest of it", easel.top(3.5, 0.5, 0.0), 2);
        check.box(easel, 0, 0.0, -0.5, 0.0, 0.5, 2.0);
    }

    /** The step counts in the group's own lengths, behind its turning and stretching. */
    private static void laidTiles(Check check) {
        SceneEasel easel = new SceneEasel();
        easel.node(0, 0, 1);
        easel.node(1, 1, 2);
        easel.mode(1, 2, 4.0);
        easel.place(1, 1.0, 0.0);
        easel.lay(1, 1, 1);
        check.due("the first tile", easel.top(0.0, 1.0, 0.0), 2);
        check.nothingThere("out of its box", easel, e -> e.top(2.0, 1.0, 0.0));
        check.due("the next tile up", easel.top(0.0, 9.0, 0.0), 2);
        check.due("the next tile to the right", easel.top(8.0, 1.0, 0.0), 2);
        check.nothingThere("half a tile to the right", easel, e -> e.top(4.0, 1.0, 0.0));
    }

    private static void steps(Check check) {
        SceneEasel easel = new SceneEasel();
        easel.node(0, 1, 1);
        easel.lengths(1, 0.5, 0.5);
        easel.mode(0, 2, 1.0);
        check.due("step 1", easel.top(7.5, -2.75, 0.0), 1);
        easel.mode(0, 2, 32.0);
        check.due("step 32", easel.top(64.25, 32.5, 0.0), 1);
        check.nothingThere("step 32", easel, e -> e.top(7.5, -2.75, 0.0));
        easel.mode(0, 2, 2.5);
        check.due("step 2.5", easel.top(5.5, -2.5, 0.0), 1);
        check.nothingThere("step 2.5", easel, e -> e.top(4.5, 0.0, 0.0));
    }

    private static void wrongInputs(Check check) {
        for (int n : new int[] {-1, 2, 3, 4, 10, 14, Integer.MIN_VALUE}) {
            check.bad(Scenes::mixed, "mode(" + n + ", 1, 1.0)", e -> e.mode(n, 1, 1.0));
        }
        for (int mode : new int[] {-1, 3, Integer.MIN_VALUE, Integer.MAX_VALUE}) {
            check.bad(Scenes::mixed, "mode(1, " + mode + ", 1.0)", e -> e.mode(1, mode, 1.0));
        }
        for (double step : new double[] {0.875, 32.125, 0.0, -1.0, 1e300, Double.NaN, Double.POSITIVE_INFINITY}) {
            for (int mode = 0; mode < 3; mode++) {
                int any = mode;
                check.bad(Scenes::mixed, "mode(0, " + mode + ", " + step + ")", e -> e.mode(0, any, step));
            }
        }
    }
}
