/** Promise 15, sentence by sentence, at its edges. */
final class Edges15AroundTest {
    public static void main(String[] args) {
        Check check = new Check("edges of promise 15");
        check.sentence("least a (side 0), least b (1), greatest a (2), greatest b (3)", Edges15AroundTest::sides);
        check.sentence("at the time", Edges15AroundTest::times);
        check.sentence("(of the ROOT: round its CHILDREN, as they are in it)", Edges15AroundTest::root);
        check.sentence("None: nothing there.", Edges15AroundTest::none);
        check.sentence("HIDDEN doesn't matter for n itself.", Edges15AroundTest::hidden);
        check.sentence("(the nodes it is for)", Edges15AroundTest::nodes);
        check.end();
    }

    private static void sides(Check check) {
        for (int n : new int[] {0, 1, 2, 12}) {
            Range.ofWhole(check, Scenes::rich, "around(" + n + ", ?, 0.0)", 0, 3, (e, side) -> e.around(n, side, 0.0));
        }
        SceneEasel easel = Scenes.shape(3, 0.125, 0.25);
        easel.place(1, -1.0, 2.0);
        check.due("side 0", easel.around(1, 0, 0.0), -1.0);
        check.due("side 1", easel.around(1, 1, 0.0), 2.0);
        check.due("side 2", easel.around(1, 2, 0.0), -0.875);
        check.due("side 3", easel.around(1, 3, 0.0), 2.25);
        check.bad(() -> Scenes.groupOf(0), "around(1, 4, 0.0), none there", e -> e.around(1, 4, 0.0));
        check.bad(() -> Scenes.groupOf(0), "around(1, -1, 0.0), none there", e -> e.around(1, -1, 0.0));
    }

    private static void times(Check check) {
        for (int n : new int[] {0, 1, 3}) {
            Range.ofNumber(check, Scenes::rich, "around(" + n + ", 0, ?)", 0.0, 1000.0,
                    (e, time) -> e.around(n, 0, time));
        }
        check.bad(() -> Scenes.groupOf(0), "around(1, 0, 1000.125), none there", e -> e.around(1, 0, 1000.125));
        SceneEasel easel = Scenes.shape(1, 1.0, 1.0);
        easel.key(1, 2, 0.0, 0.0);
        easel.key(1, 2, 1000.0, 1.0);
        check.box(easel, 1, 0.0, 0.0, 0.0, 1.0, 1.0);
        check.box(easel, 1, Math.nextDown(1000.0), 0.0, 0.0, 1.0, 1.0);
        check.box(easel, 1, 1000.0, 0.0, 0.0, 2.0, 2.0);
    }

    private static void root(Check check) {
        SceneEasel easel = Scenes.groupOf(1);
        easel.place(1, 3.0, -2.0);
        easel.lay(1, 2, 1);
        check.box(easel, 2, 0.0, 0.0, 0.0, 1.0, 1.0);
        check.box(easel, 1, 0.0, 1.0, -4.0, 3.0, -2.0);
        check.box(easel, 0, 0.0, 1.0, -4.0, 3.0, -2.0);
        easel.into(2, 0);
        check.box(easel, 0, 0.0, 0.0, 0.0, 1.0, 1.0);
    }

    private static void none(Check check) {
        for (int side = 0; side <= 3; side++) {
            int any = side;
            check.nothingThere(Scenes::empty, "around(0, " + side + ", 0.0)", e -> e.around(0, any, 0.0));
            for (int n = 0; n <= 5; n++) {
                int asked = n;
                check.nothingThere(() -> Scenes.chain(5), "around(" + n + ", " + side + ", 0.0)",
                        e -> e.around(asked, any, 0.0));
            }
        }
        SceneEasel easel = Scenes.chain(4);
        easel.node(4, 1, 1);
        for (int n = 0; n <= 5; n++) {
            check.box(easel, n, 0.0, 0.0, 0.0, 1.0, 1.0);
        }
        easel.remove(5);
        for (int n = 0; n <= 4; n++) {
            int asked = n;
            check.nothingThere("around(" + n + ", 0, 0.0)", easel, e -> e.around(asked, 0, 0.0));
        }
    }

    /** It matters for what is in n, and for what n is in. */
    private static void hidden(Check check) {
        for (int kind = 1; kind <= 3; kind++) {
            SceneEasel shape = Scenes.shape(kind, 1.0, 1.0);
            shape.hide(1, true);
            check.due("a hidden shape", shape.around(1, 2, 0.0), 1.0);
            check.nothingThere("the root round it", shape, e -> e.around(0, 2, 0.0));
        }
        SceneEasel easel = Scenes.groupOf(2);
        easel.place(3, 4.0, 4.0);
        easel.hide(1, true);
        check.box(easel, 1, 0.0, 0.0, 0.0, 5.0, 5.0);
        check.box(easel, 2, 0.0, 0.0, 0.0, 1.0, 1.0);
        easel.hide(3, true);
        check.box(easel, 1, 0.0, 0.0, 0.0, 1.0, 1.0);
        check.box(easel, 3, 0.0, 4.0, 4.0, 5.0, 5.0);
        easel.hide(2, true);
        check.nothingThere("a hidden group, all in it hidden", easel, e -> e.around(1, 0, 0.0));
        check.nothingThere("the root round it", easel, e -> e.around(0, 0, 0.0));
        easel.hide(1, false);
        check.nothingThere("a group, all in it hidden", easel, e -> e.around(1, 0, 0.0));
    }

    private static void nodes(Check check) {
        for (int n = 0; n <= 12; n++) {
            int any = n;
            check.fine(Scenes::rich, "around(" + n + ", 0, 0.0)", e -> e.around(any, 0, 0.0));
        }
        for (int n : new int[] {-1, 13, 14, Integer.MIN_VALUE, Integer.MAX_VALUE}) {
            check.bad(Scenes::rich, "around(" + n + ", 0, 0.0)", e -> e.around(n, 0, 0.0));
        }
    }
}
