final class Promise01NewObjectTest {
    public static void main(String[] args) {
        Check check = new Check("promise 1, a new object");
        SceneEasel easel = new SceneEasel();
        int[] counts = {1, 0, 0, 0};
        int[] ofRoot = {0, -1, 0, 0, 0};
        for (int what = 0; what < counts.length; what++) {
            check.due("count(" + what + ")", easel.count(what), counts[what]);
        }
        for (int what = 0; what < ofRoot.length; what++) {
            check.due("told(0, " + what + ")", easel.told(0, what), ofRoot[what]);
        }
        for (int k = 0; k < 192; k++) {
            check.due("cell " + k, easel.cell(k % 16, k / 16), 0);
        }
        check.nothingThere(Scenes::empty, "top(0.5, 0.5, 0.0)", e -> e.top(0.5, 0.5, 0.0));
        check.nothingThere(Scenes::empty, "around(0, 0, 0.0)", e -> e.around(0, 0, 0.0));
        for (int n = 1; n < 14; n++) {
            int missing = n;
            check.bad(Scenes::empty, "told(" + n + ", 0)", e -> e.told(missing, 0));
        }
        rootIsPlain(check);
        objectsAreApart(check);
        check.end();
    }

    /** A mask would show nothing of one child, tiles would repeat it. */
    private static void rootIsPlain(Check check) {
        SceneEasel easel = new SceneEasel();
        easel.node(0, 1, 1);
        check.due("top(0.5, 0.5, 0.0)", easel.top(0.5, 0.5, 0.0), 1);
        check.nothingThere("top(33.5, 0.5, 0.0)", easel, e -> e.top(33.5, 0.5, 0.0));
        check.due("paint(0.0)", easel.paint(0.0), 1);
    }

    private static void objectsAreApart(Check check) {
        SceneEasel one = new SceneEasel();
        SceneEasel other = new SceneEasel();
        one.node(0, 1, 1);
        one.paint(0.0);
        check.due("count(0) of another object", other.count(0), 1);
        check.due("cell(0, 0) of another object", other.cell(0, 0), 0);
    }
}
