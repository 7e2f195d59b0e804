final class Promise05LayTest {
    public static void main(String[] args) {
        Check check = new Check("promise 5, lay");
        turns(check);
        stretches(check);
        groups(check);
        wrongInputs(check);
        check.end();
    }

    /** The box reaches from its place (10, 10) in another direction with every turn. */
    private static void turns(Check check) {
        SceneEasel easel = Scenes.shape(1, 4.0, 1.0);
        easel.place(1, 10.0, 10.0);
        double[][] boxes = {{10.0, 10.0, 14.0, 11.0}, {9.0, 10.0, 10.0, 14.0}, {6.0, 9.0, 10.0, 10.0},
            {10.0, 6.0, 11.0, 10.0}};
        for (int turn = 0; turn < 4; turn++) {
            easel.lay(1, turn, 0);
            double[] box = boxes[turn];
            check.box(easel, 1, 0.0, box);
            corners(check, easel, box);
        }
        SceneEasel wedge = Scenes.shape(3, 4.0, 2.0);
        wedge.lay(1, 1, 0);
        check.due("a turned wedge at (-1, 2)", wedge.top(-1.0, 2.0, 0.0), 1);
        check.nothingThere("a turned wedge at (-1.125, 2)", wedge, e -> e.top(-1.125, 2.0, 0.0));
        wedge.lay(1, 3, 0);
        check.due("a wedge turned thrice at (1, -2)", wedge.top(1.0, -2.0, 0.0), 1);
        check.nothingThere("a wedge turned thrice at (1, 2)", wedge, e -> e.top(1.0, 2.0, 0.0));
    }

    private static void corners(Check check, SceneEasel easel, double[] box) {
        check.due("least corner", easel.top(box[0], box[1], 0.0), 1);
        check.due("greatest corner", easel.top(box[2], box[3], 0.0), 1);
        check.nothingThere("left of it", easel, e -> e.top(box[0] - 0.125, box[1], 0.0));
        check.nothingThere("below it", easel, e -> e.top(box[0], box[1] - 0.125, 0.0));
        check.nothingThere("right of it", easel, e -> e.top(box[2] + 0.125, box[3], 0.0));
        check.nothingThere("above it", easel, e -> e.top(box[2], box[3] + 0.125, 0.0));
    }

    private static void stretches(Check check) {
        SceneEasel easel = Scenes.shape(1, 4.0, 1.0);
        easel.place(1, 1.0, 2.0);
        double[] factors = {0.25, 0.5, 1.0, 2.0, 4.0};
        for (int stretch = -2; stretch <= 2; stretch++) {
            double factor = factors[stretch + 2];
            easel.lay(1, 0, stretch);
            double[] box = {1.0, 2.0, 1.0 + 4.0 * factor, 2.0 + factor};
            check.box(easel, 1, 0.0, box);
            corners(check, easel, box);
        }
        SceneEasel disc = Scenes.shape(2, 5.0, 1.0);
        disc.lay(1, 2, 1);
        check.due("a stretched disc at (6, 8)", disc.top(6.0, 8.0, 0.0), 1);
        check.nothingThere("a stretched disc at (6, 8.125)", disc, e -> e.top(6.0, 8.125, 0.0));
        check.box(disc, 1, 0.0, -10.0, -10.0, 10.0, 10.0);
    }

    /** What is in a group is laid into it first, and with it then. */
    private static void groups(Check check) {
        SceneEasel easel = new SceneEasel();
        easel.node(0, 0, 1);
        easel.node(1, 1, 1);
        easel.place(1, 8.0, 8.0);
        easel.lay(1, 1, 1);
        easel.place(2, 1.0, 0.5);
        easel.lengths(2, 3.0, 1.0);
        easel.lay(2, 3, -1);
        check.box(easel, 2, 0.0, 1.0, -1.0, 1.5, 0.5);
        check.box(easel, 1, 0.0, 7.0, 10.0, 10.0, 11.0);
        check.due("top(7.0, 11.0, 0.0)", easel.top(7.0, 11.0, 0.0), 2);
        check.nothingThere("top(6.875, 11.0, 0.0)", easel, e -> e.top(6.875, 11.0, 0.0));
        check.nothingThere("top(7.0, 9.875, 0.0)", easel, e -> e.top(7.0, 9.875, 0.0));
        check.due("top(10.0, 10.0, 0.0)", easel.top(10.0, 10.0, 0.0), 2);
    }

    private static void wrongInputs(Check check) {
        for (int n : new int[] {-1, 0, 10, 14, Integer.MIN_VALUE}) {
            check.bad(Scenes::mixed, "lay(" + n + ", 1, 1)", e -> e.lay(n, 1, 1));
        }
        for (int turn : new int[] {-1, 4, Integer.MIN_VALUE, Integer.MAX_VALUE}) {
            check.bad(Scenes::mixed, "lay(4, " + turn + ", 0)", e -> e.lay(4, turn, 0));
        }
        for (int stretch : new int[] {-3, 3, Integer.MIN_VALUE, Integer.MAX_VALUE}) {
            check.bad(Scenes::mixed, "lay(4, 0, " + stretch + ")", e -> e.lay(4, 0, stretch));
        }
    }
}
