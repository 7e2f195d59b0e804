/** Promise 1, sentence by sentence, at its edges. */
final class Edges01NewObjectTest {
    public static void main(String[] args) {
        Check check = new Check("edges of promise 1");
        check.sentence("Just the ROOT", Edges01NewObjectTest::justTheRoot);
        check.sentence("MODE 0", Edges01NewObjectTest::plain);
        check.sentence("No picture: all cells 0.", Edges01NewObjectTest::noPicture);
        check.end();
    }

    private static void justTheRoot(Check check) {
        SceneEasel easel = new SceneEasel();
        check.due("count(0)", easel.count(0), 1);
        check.due("count(1)", easel.count(1), 0);
        check.due("count(3)", easel.count(3), 0);
        check.due("told(0, 0)", easel.told(0, 0), 0);
        check.due("told(0, 2)", easel.told(0, 2), 0);
        for (int n : new int[] {-1, 1, 2, 13, 14}) {
            check.bad(Scenes::empty, "told(" + n + ", 0)", e -> e.told(n, 0));
            check.bad(Scenes::empty, "around(" + n + ", 0, 0.0)", e -> e.around(n, 0, 0.0));
        }
        check.nothingThere(Scenes::empty, "top(0.0, 0.0, 0.0)", e -> e.top(0.0, 0.0, 0.0));
        check.nothingThere(Scenes::empty, "around(0, 0, 0.0)", e -> e.around(0, 0, 0.0));
        check.due("the first free number", easel.node(0, 0, 1), 1);
    }

    /** A mask would show nothing of one box, and tiles would show it again a step on, whatever the step is. */
    private static void plain(Check check) {
        SceneEasel easel = Scenes.shape(1, 0.125, 0.125);
        check.has(easel, 0.125, 0.125, 1);
        for (double step = 1.0; step <= 32.0; step += 0.125) {
            check.hasNot(easel, step, 0.0);
        }
        check.hasNot(easel, 0.0, -1.0);
        check.hasNot(easel, 0.0, 32.0);
    }

    private static void noPicture(Check check) {
        SceneEasel easel = new SceneEasel();
        easel.node(0, 1, 1);
        easel.lengths(1, 100.0, 100.0);
        check.due("count(2)", easel.count(2), 0);
        for (int k = 0; k < 192; k++) {
            check.due("cell(" + k % 16 + ", " + k / 16 + "), not painted", easel.cell(k % 16, k / 16), 0);
        }
        easel.paint(0.0);
        check.due("cell(0, 0), painted", easel.cell(0, 0), 1);
        check.due("cell(15, 11), painted", easel.cell(15, 11), 1);
        check.due("cell(0, 0) of a new object", new SceneEasel().cell(0, 0), 0);
        check.due("cell(15, 11) of a new object", new SceneEasel().cell(15, 11), 0);
    }
}
