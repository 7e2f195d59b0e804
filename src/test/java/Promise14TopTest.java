final class Promise14TopTest {
    public static void main(String[] args) {
        Check check = new Check("promise 14, top");
        treeOrder(check);
        pointEdges(check);
        times(check);
        wrongInputs(check);
        check.end();
    }

    /** The last group on top shows its own last; a group that hasn't the point lets the one below be seen. */
    private static void treeOrder(Check check) {
        SceneEasel easel = new SceneEasel();
        easel.node(0, 1, 1);
        easel.node(0, 0, 2);
        easel.node(2, 1, 3);
        easel.node(2, 0, 4);
        easel.node(4, 1, 5);
        easel.node(4, 2, 6);
        easel.node(0, 0, 7);
        easel.place(6, 1.0, 1.0);
        check.due("disc 6 is the last", easel.top(0.75, 0.75, 0.0), 6);
        check.due("box 5 where disc 6 is not", easel.top(0.125, 0.125, 0.0), 5);
        easel.hide(5, true);
        check.due("box 3 where group 4 hasn't it", easel.top(0.125, 0.125, 0.0), 3);
        easel.remove(3);
        check.due("box 1 where group 2 hasn't it", easel.top(0.125, 0.125, 0.0), 1);
        check.due("group 2 has this one", easel.top(1.5, 1.5, 0.0), 6);
        check.due("top paints nothing", easel.count(2), 0);
        check.due("no cell is coloured", easel.cell(0, 0), 0);
    }

    private static void pointEdges(Check check) {
        SceneEasel easel = Scenes.shape(1, 100.0, 100.0);
        easel.mode(0, 2, 32.0);
        for (double edge : new double[] {-1000.0, 1000.0, -0.0, 0.1, 999.9999}) {
            check.due("top(" + edge + ", 0.0, 0.0)", easel.top(edge, 0.0, 0.0), 1);
            check.due("top(0.0, " + edge + ", 0.0)", easel.top(0.0, edge, 0.0), 1);
        }
        check.nothingThere(() -> Scenes.shape(1, 1.0, 1.0), "top(1.125, 0.0, 0.0)", e -> e.top(1.125, 0.0, 0.0));
        check.nothingThere(() -> Scenes.shape(1, 1.0, 1.0), "top(-1000.0, 1000.0, 0.0)",
                e -> e.top(-1000.0, 1000.0, 0.0));
    }

    private static void times(Check check) {
        SceneEasel easel = Scenes.shape(1, 1.0, 1.0);
        easel.key(1, 0, 0.0, 0.0);
        easel.key(1, 0, 1000.0, 100.0);
        check.due("at 0.0", easel.top(0.0, 0.0, 0.0), 1);
        check.due("at 500.0", easel.top(51.0, 0.0, 500.0), 1);
        check.due("at 1000.0", easel.top(101.0, 0.0, 1000.0), 1);
        check.nothingThere("gone on at 1000.0", easel, e -> e.top(51.0, 0.0, 1000.0));
        check.due("back at 0.0", easel.top(1.0, 0.0, 0.0), 1);
    }

    private static void wrongInputs(Check check) {
        for (double out : new double[] {-1000.125, 1000.125, 1e300, Double.NaN, Double.POSITIVE_INFINITY,
            Double.NEGATIVE_INFINITY}) {
            check.bad(Scenes::mixed, "top(" + out + ", 0.0, 0.0)", e -> e.top(out, 0.0, 0.0));
            check.bad(Scenes::mixed, "top(0.0, " + out + ", 0.0)", e -> e.top(0.0, out, 0.0));
            check.bad(Scenes::empty, "top(0.0, 0.0, " + out + ")", e -> e.top(0.0, 0.0, out));
        }
        check.bad(Scenes::mixed, "top(0.0, 0.0, -0.125)", e -> e.top(0.0, 0.0, -0.125));
    }
}
