final class Promise02NodeTest {
    public static void main(String[] args) {
        Check check = new Check("promise 2, node");
        numbersAndOrder(check);
        startsFresh(check);
        everyColour(check);
        room(check);
        depth(check);
        wrongInputs(check);
        check.end();
    }

    private static void numbersAndOrder(Check check) {
        SceneEasel easel = new SceneEasel();
        for (int kind = 0; kind < 4; kind++) {
            check.due("node(0, " + kind + ", 1)", easel.node(0, kind, 1), kind + 1);
            check.due("its kind", easel.told(kind + 1, 0), kind);
            check.due("its parent", easel.told(kind + 1, 1), 0);
            check.due("its place", easel.told(kind + 1, 3), kind);
        }
        check.due("node(1, 0, 15)", easel.node(1, 0, 15), 5);
        check.due("its parent", easel.told(5, 1), 1);
        check.due("its place", easel.told(5, 3), 0);
        easel.remove(2);
        easel.remove(4);
        check.due("node with 2 and 4 free", easel.node(0, 2, 1), 2);
        check.due("it is the last one", easel.told(2, 3), 2);
        check.due("node with 4 free", easel.node(1, 2, 1), 4);
        check.due("node with none of the low ones free", easel.node(1, 2, 1), 6);
    }

    /** A number that is used again brings nothing along from the node that had it before. */
    private static void startsFresh(Check check) {
        SceneEasel easel = new SceneEasel();
        for (int round = 0; round < 2; round++) {
            check.due("node(0, 1, 6)", easel.node(0, 1, 6), 1);
            check.box(easel, 1, 0.0, 0.0, 0.0, 1.0, 1.0);
            check.due("top(1.0, 1.0, 0.0)", easel.top(1.0, 1.0, 0.0), 1);
            check.due("paint(0.0)", easel.paint(0.0), 1);
            check.due("cell(0, 0)", easel.cell(0, 0), 6);
            check.due("told(1, 4)", easel.told(1, 4), 0);
            easel.lengths(1, 7.0, 3.0);
            easel.place(1, 3.0, 4.0);
            easel.lay(1, 1, 2);
            easel.hide(1, true);
            easel.key(1, 0, 1.0, 1.0);
            easel.key(1, 3, 1.0, 1.0);
            easel.remove(1);
        }
        SceneEasel groups = new SceneEasel();
        for (int round = 0; round < 2; round++) {
            groups.node(0, 0, 1);
            check.due("children of a new group", groups.told(1, 2), 0);
            groups.node(1, 1, 2);
            check.due("a new group is plain", groups.top(0.5, 0.5, 0.0), 2);
            check.nothingThere("a new group has no tiles", groups, e -> e.top(2.5, 0.5, 0.0));
            groups.mode(1, round + 1, 2.0);
            groups.remove(1);
        }
    }

    private static void everyColour(Check check) {
        for (int colour = 1; colour <= 15; colour++) {
            SceneEasel easel = new SceneEasel();
            easel.node(0, 1, colour);
            easel.paint(0.0);
            check.due("the colour painted", easel.cell(0, 0), colour);
        }
    }

    private static void room(Check check) {
        SceneEasel easel = Scenes.full();
        check.due("count(0)", easel.count(0), 14);
        check.noRoom(Scenes::full, "node(0, 1, 14)", e -> e.node(0, 1, 14));
        check.noRoom(Scenes::full, "node(1, 0, 1)", e -> e.node(1, 0, 1));
        check.bad(Scenes::full, "node(2, 1, 1), full", e -> e.node(2, 1, 1));
        check.bad(Scenes::full, "node(0, 4, 1), full", e -> e.node(0, 4, 1));
        check.bad(Scenes::full, "node(0, 1, 0), full", e -> e.node(0, 1, 0));
        easel.remove(9);
        check.due("node(13, 0, 1) when 9 went", easel.node(13, 0, 1), 9);
    }

    private static void depth(Check check) {
        SceneEasel easel = Scenes.mixed();
        check.due("node(8, 1, 1), 5 deep", easel.node(8, 1, 1), 10);
        for (int kind = 0; kind < 4; kind++) {
            int any = kind;
            check.noRoom(Scenes::mixed, "node(9, " + kind + ", 1), 6 deep", e -> e.node(9, any, 1));
        }
        check.bad(Scenes::mixed, "node(9, 4, 1), 6 deep", e -> e.node(9, 4, 1));
        check.bad(Scenes::mixed, "node(9, 0, 16), 6 deep", e -> e.node(9, 0, 16));
    }

    private static void wrongInputs(Check check) {
        for (int group : new int[] {-1, 2, 3, 4, 10, 13, 14, Integer.MIN_VALUE, Integer.MAX_VALUE}) {
            check.bad(Scenes::mixed, "node(" + group + ", 1, 1)", e -> e.node(group, 1, 1));
        }
        for (int kind : new int[] {-1, 4, Integer.MIN_VALUE, Integer.MAX_VALUE}) {
            check.bad(Scenes::mixed, "node(0, " + kind + ", 1)", e -> e.node(0, kind, 1));
        }
        for (int colour : new int[] {-1, 0, 16, Integer.MIN_VALUE, Integer.MAX_VALUE}) {
            check.bad(Scenes::mixed, "node(0, 1, " + colour + ")", e -> e.node(0, 1, colour));
        }
    }
}
