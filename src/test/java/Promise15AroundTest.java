final class Promise15AroundTest {
    public static void main(String[] args) {
        Check check = new Check("promise 15, around");
        shapes(check);
        zeros(check);
        groups(check);
        joined(check);
        hidden(check);
        modesDoNotMatter(check);
        none(check);
        wrongInputs(check);
        check.end();
    }

    private static void shapes(Check check) {
        SceneEasel box = Scenes.shape(1, 3.0, 0.125);
        check.box(box, 1, 0.0, 0.0, 0.0, 3.0, 0.125);
        box.lay(1, 2, -2);
        check.box(box, 1, 0.0, -0.75, -0.03125, 0.0, 0.0);
        box.lay(1, 1, 0);
        check.box(box, 1, 0.0, -0.125, 0.0, 0.0, 3.0);
        box.lay(1, 3, 0);
        check.box(box, 1, 0.0, 0.0, -3.0, 0.125, 0.0);
        SceneEasel disc = Scenes.shape(2, 3.0, 9.0);
        disc.place(1, 3.0, -3.0);
        disc.lay(1, 1, 0);
        check.box(disc, 1, 0.0, 0.0, -6.0, 6.0, 0.0);
        SceneEasel wedge = Scenes.shape(3, 2.0, 5.0);
        wedge.lay(1, 2, 1);
        check.box(wedge, 1, 0.0, -4.0, -10.0, 0.0, 0.0);
    }

    /** A zero that is told has no sign, whatever was set and however it is turned. */
    private static void zeros(Check check) {
        SceneEasel easel = Scenes.shape(1, 1.0, 1.0);
        easel.place(1, -0.0, -0.0);
        double[][] boxes = {{0.0, 0.0, 1.0, 1.0}, {-1.0, 0.0, 0.0, 1.0}, {-1.0, -1.0, 0.0, 0.0}, {0.0, -1.0, 1.0, 0.0}};
        for (int turn = 0; turn < 4; turn++) {
            easel.lay(1, turn, -1);
            easel.lengths(1, 2.0, 2.0);
            check.box(easel, 1, 0.0, boxes[turn]);
            check.box(easel, 0, 0.0, boxes[turn]);
        }
        easel.lay(1, 2, -1);
        easel.key(1, 0, 0.0, -0.0);
        check.box(easel, 1, 0.0, boxes[2]);
    }

    /** Each of the boxes reaches out on one side alone. */
    private static void joined(Check check) {
        double[][] places = {{0.0, 0.0}, {-0.5, 0.5}, {0.5, -0.75}, {1.5, 0.5}, {0.5, 1.25}};
        double[] sides = {0.0, 0.0, 2.0, 2.0};
        SceneEasel easel = new SceneEasel();
        for (int k = 0; k < places.length; k++) {
            easel.node(0, 1, 1);
            easel.place(k + 1, places[k][0], places[k][1]);
            easel.lengths(k + 1, k == 0 ? 2.0 : 1.0, k == 0 ? 2.0 : 1.0);
            if (k > 0) {
                int side = k - 1;
                sides[side] = places[k][side % 2] + (side < 2 ? 0.0 : 1.0);
            }
            check.box(easel, 0, 0.0, sides);
        }
        easel.into(1, 0);
        check.box(easel, 0, 0.0, -0.5, -0.75, 2.5, 2.25);
    }

    /** The root's box is not laid; a group's is, and the box of what is in it is told in the group. */
    private static void groups(Check check) {
        SceneEasel easel = new SceneEasel();
        easel.node(0, 0, 1);
        easel.place(1, -5.0, 2.0);
        easel.lay(1, 1, 1);
        easel.node(1, 1, 1);
        easel.place(2, 1.0, 1.0);
        easel.node(1, 2, 1);
        easel.place(3, -2.0, 4.0);
        check.box(easel, 2, 0.0, 1.0, 1.0, 2.0, 2.0);
        check.box(easel, 3, 0.0, -3.0, 3.0, -1.0, 5.0);
        check.box(easel, 1, 0.0, -15.0, -4.0, -7.0, 6.0);
        check.box(easel, 0, 0.0, -15.0, -4.0, -7.0, 6.0);
        easel.node(0, 3, 1);
        check.box(easel, 0, 0.0, -15.0, -4.0, 1.0, 6.0);
        easel.key(1, 0, 0.0, 0.0);
        easel.key(1, 0, 3.0, 1.0);
        easel.key(3, 2, 2.0, 0.0);
        easel.key(3, 2, 3.0, 2.0);
        check.box(easel, 1, 1.0, -10.0 + 21.0 / 64.0, -4.0, -2.0 + 21.0 / 64.0, 6.0);
        check.box(easel, 1, 3.0, -15.0, -10.0, 1.0, 6.0);
    }

    private static void hidden(Check check) {
        SceneEasel easel = new SceneEasel();
        easel.node(0, 0, 1);
        easel.node(1, 1, 1);
        easel.node(1, 1, 1);
        easel.place(3, 5.0, 5.0);
        easel.hide(3, true);
        check.box(easel, 3, 0.0, 5.0, 5.0, 6.0, 6.0);
        check.box(easel, 1, 0.0, 0.0, 0.0, 1.0, 1.0);
        easel.hide(1, true);
        check.box(easel, 1, 0.0, 0.0, 0.0, 1.0, 1.0);
        check.box(easel, 2, 0.0, 0.0, 0.0, 1.0, 1.0);
        check.nothingThere("around(0, 0, 0.0), all hidden", easel, e -> e.around(0, 0, 0.0));
        easel.hide(2, true);
        check.nothingThere("around(1, 0, 0.0), all in it hidden", easel, e -> e.around(1, 0, 0.0));
        easel.hide(3, false);
        check.box(easel, 1, 0.0, 5.0, 5.0, 6.0, 6.0);
    }

    private static void modesDoNotMatter(Check check) {
        for (int group = 0; group < 2; group++) {
            for (int mode = 0; mode < 3; mode++) {
                SceneEasel easel = new SceneEasel();
                easel.node(0, 0, 1);
                easel.node(group, 1, 1);
                easel.node(group, 1, 1);
                easel.place(3, 5.0, 5.0);
                easel.mode(group, mode, 2.0);
                check.box(easel, group, 0.0, 0.0, 0.0, 6.0, 6.0);
            }
        }
    }

    private static void none(Check check) {
        for (int side = 0; side < 4; side++) {
            int any = side;
            check.nothingThere(Scenes::mixed, "around(9, " + side + ", 0.0)", e -> e.around(9, any, 0.0));
            check.nothingThere(Scenes::mixed, "around(5, " + side + ", 0.0)", e -> e.around(5, any, 0.0));
        }
        SceneEasel easel = new SceneEasel();
        easel.node(0, 0, 1);
        easel.place(1, -50.0, -50.0);
        easel.node(0, 1, 1);
        easel.place(2, 5.0, 5.0);
        check.box(easel, 0, 0.0, 5.0, 5.0, 6.0, 6.0);
        easel.node(1, 1, 1);
        check.box(easel, 0, 0.0, -50.0, -50.0, 6.0, 6.0);
        easel.remove(3);
        check.box(easel, 0, 0.0, 5.0, 5.0, 6.0, 6.0);
        check.nothingThere("around(1, 0, 0.0), empty again", easel, e -> e.around(1, 0, 0.0));
    }

    private static void wrongInputs(Check check) {
        for (int n : new int[] {-1, 10, 14, Integer.MIN_VALUE, Integer.MAX_VALUE}) {
            check.bad(Scenes::mixed, "around(" + n + ", 0, 0.0)", e -> e.around(n, 0, 0.0));
        }
        for (int side : new int[] {-1, 4, Integer.MIN_VALUE, Integer.MAX_VALUE}) {
            check.bad(Scenes::mixed, "around(2, " + side + ", 0.0)", e -> e.around(2, side, 0.0));
            check.bad(Scenes::mixed, "around(9, " + side + ", 0.0)", e -> e.around(9, side, 0.0));
        }
        for (double time : new double[] {-0.125, 1000.125, Double.NaN, Double.POSITIVE_INFINITY}) {
            check.bad(Scenes::mixed, "around(2, 0, " + time + ")", e -> e.around(2, 0, time));
            check.bad(Scenes::mixed, "around(9, 0, " + time + ")", e -> e.around(9, 0, time));
        }
        SceneEasel easel = Scenes.shape(1, 1.0, 1.0);
        check.due("around at 1000.0", easel.around(1, 2, 1000.0), 1.0);
    }
}
