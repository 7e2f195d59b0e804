/** Promise 7, sentence by sentence, at its edges. */
final class Edges07HideTest {
    public static void main(String[] args) {
        Check check = new Check("edges of promise 7");
        check.sentence("HIDDEN or not", Edges07HideTest::hiddenOrNot);
        check.sentence("any NODE but the ROOT", Edges07HideTest::anyNode);
        check.end();
    }

    private static void hiddenOrNot(Check check) {
        for (int kind = 1; kind <= 3; kind++) {
            SceneEasel easel = Scenes.shape(kind, 1.0, 1.0);
            easel.hide(1, false);
            check.has(easel, 0.25, 0.25, 1);
            easel.hide(1, true);
            check.hasNot(easel, 0.25, 0.25);
            easel.hide(1, true);
            check.hasNot(easel, 0.25, 0.25);
            easel.hide(1, false);
            check.has(easel, 0.25, 0.25, 1);
        }
        SceneEasel easel = Scenes.groupOf(1);
        easel.hide(1, true);
        check.hasNot(easel, 0.5, 0.5);
        check.due("nothing is painted", easel.paint(0.0), 0);
        easel.hide(1, false);
        check.has(easel, 0.5, 0.5, 2);
        check.due("one cell is painted", easel.paint(0.0), 1);
    }

    private static void anyNode(Check check) {
        for (int n = 1; n <= 13; n++) {
            int any = n;
            check.fine(Scenes::full, "hide(" + n + ", true)", e -> e.hide(any, true));
        }
        for (boolean on : new boolean[] {false, true}) {
            for (int n : new int[] {-1, 0, 13, 14, Integer.MIN_VALUE, Integer.MAX_VALUE}) {
                check.bad(Scenes::rich, "hide(" + n + ", " + on + ")", e -> e.hide(n, on));
            }
        }
    }
}
