/** Promise 5, sentence by sentence, at its edges. */
final class Edges05LayTest {
    public static void main(String[] args) {
        Check check = new Check("edges of promise 5");
        check.sentence("The TURN (0 .. 3)", Edges05LayTest::turns);
        check.sentence("and STRETCH (-2 .. 2)", Edges05LayTest::stretches);
        check.sentence("(the nodes it is for)", Edges05LayTest::nodes);
        check.end();
    }

    private static void turns(Check check) {
        for (int n : new int[] {1, 4, 5, 12}) {
            Range.ofWhole(check, Scenes::rich, "lay(" + n + ", ?, -1)", 0, 3, (e, turn) -> e.lay(n, turn, -1));
        }
        double[][] boxes = {{0.0, 0.0, 3.0, 2.0}, {-2.0, 0.0, 0.0, 3.0}, {-3.0, -2.0, 0.0, 0.0}, {0.0, -3.0, 2.0, 0.0}};
        for (int turn = 0; turn <= 3; turn++) {
            SceneEasel easel = Scenes.shape(1, 3.0, 2.0);
            easel.lay(1, turn, 0);
            check.box(easel, 1, 0.0, boxes[turn]);
            check.has(easel, boxes[turn][0], boxes[turn][1], 1);
            check.has(easel, boxes[turn][2], boxes[turn][3], 1);
            check.hasNot(easel, boxes[turn][0] - 0.125, boxes[turn][1]);
            check.hasNot(easel, boxes[turn][2], boxes[turn][3] + 0.125);
        }
    }

    private static void stretches(Check check) {
        for (int n : new int[] {1, 4, 5, 12}) {
            Range.ofWhole(check, Scenes::rich, "lay(" + n + ", 2, ?)", -2, 2, (e, stretch) -> e.lay(n, 2, stretch));
        }
        double size = 0.75;
        for (int stretch = -2; stretch <= 2; stretch++) {
            SceneEasel easel = Scenes.shape(1, 3.0, 3.0);
            easel.lay(1, 0, stretch);
            check.box(easel, 1, 0.0, 0.0, 0.0, size, size);
            check.has(easel, size, size, 1);
            check.hasNot(easel, Math.nextUp(size), size);
            check.has(easel, Math.nextDown(size), size, 1);
            size = size * 2.0;
        }
    }

    private static void nodes(Check check) {
        for (int n = 1; n <= 12; n++) {
            int any = n;
            check.fine(Scenes::rich, "lay(" + n + ", 1, 1)", e -> e.lay(any, 1, 1));
        }
        for (int n : new int[] {-1, 0, 13, 14, Integer.MIN_VALUE, Integer.MAX_VALUE}) {
            check.bad(Scenes::rich, "lay(" + n + ", 1, 1)", e -> e.lay(n, 1, 1));
        }
    }
}
