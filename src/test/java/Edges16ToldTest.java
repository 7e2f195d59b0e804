/** Promise 16, sentence by sentence, at its edges. */
final class Edges16ToldTest {
    public static void main(String[] args) {
        Check check = new Check("edges of promise 16");
        check.sentence("KIND (what 0), ..., KEY FRAMES of all properties (4)", Edges16ToldTest::whats);
        check.sentence("Of NODE n, the ROOT too", Edges16ToldTest::nodes);
        check.sentence("PARENT (1; -1 of the ROOT)", Edges16ToldTest::parents);
        check.sentence("how many CHILDREN (2)", Edges16ToldTest::children);
        check.sentence("its place among its PARENT's CHILDREN (3; 0 of the ROOT)", Edges16ToldTest::places);
        check.sentence("KEY FRAMES of all properties (4)", Edges16ToldTest::frames);
        check.end();
    }

    private static void whats(Check check) {
        for (int n : new int[] {0, 1, 2, 12}) {
            Range.ofWhole(check, Scenes::rich, "told(" + n + ", ?)", 0, 4, (e, what) -> e.told(n, what));
        }
        int[] kinds = {0, 0, 1, 2, 0, 3, 0, 1, 0, 0, 0, 0, 1};
        SceneEasel easel = Scenes.rich();
        for (int n = 0; n <= 12; n++) {
            check.due("told(" + n + ", 0)", easel.told(n, 0), kinds[n]);
        }
    }

    private static void nodes(Check check) {
        for (int n = 0; n <= 13; n++) {
            int any = n;
            check.fine(Scenes::full, "told(" + n + ", 0)", e -> e.told(any, 0));
        }
        for (int what = 0; what <= 4; what++) {
            int any = what;
            for (int n : new int[] {-1, 13, 14, Integer.MIN_VALUE, Integer.MAX_VALUE}) {
                check.bad(Scenes::rich, "told(" + n + ", " + what + ")", e -> e.told(n, any));
            }
        }
    }

    private static void parents(Check check) {
        int[] parents = {-1, 0, 1, 1, 1, 4, 0, 6, 0, 8, 9, 10, 11};
        SceneEasel easel = Scenes.rich();
        for (int n = 0; n <= 12; n++) {
            check.due("told(" + n + ", 1)", easel.told(n, 1), parents[n]);
        }
        check.due("told(0, 1) of a new object", new SceneEasel().told(0, 1), -1);
    }

    private static void children(Check check) {
        for (int boxes = 0; boxes <= 12; boxes++) {
            SceneEasel easel = Scenes.groupOf(boxes);
            check.due("told(1, 2)", easel.told(1, 2), boxes);
            check.due("told(0, 2)", easel.told(0, 2), 1);
        }
        check.due("of the root, all in it", Scenes.full().told(0, 2), 13);
        for (int kind = 1; kind <= 3; kind++) {
            check.due("of a shape", Scenes.shape(kind, 1.0, 1.0).told(1, 2), 0);
        }
    }

    private static void places(Check check) {
        SceneEasel easel = Scenes.full();
        check.due("told(0, 3)", easel.told(0, 3), 0);
        for (int n = 1; n <= 13; n++) {
            check.due("told(" + n + ", 3)", easel.told(n, 3), n - 1);
        }
        easel.remove(1);
        check.due("the first one now", easel.told(2, 3), 0);
        check.due("the last one now", easel.told(13, 3), 11);
    }

    private static void frames(Check check) {
        SceneEasel easel = Scenes.groupOf(1);
        check.due("told(0, 4)", easel.told(0, 4), 0);
        for (int n = 1; n <= 2; n++) {
            int there = 0;
            for (int property = 0; property <= 3; property++) {
                for (int time = 0; time <= 3; time++) {
                    check.due("told(" + n + ", 4)", easel.told(n, 4), there);
                    easel.key(n, property, time, 1.0);
                    there++;
                }
            }
            check.due("told(" + n + ", 4), all it can have", easel.told(n, 4), 16);
        }
        check.due("told(0, 4), not those of what is in it", easel.told(0, 4), 0);
    }
}
