/** Promise 14, sentence by sentence, at its edges. */
final class Edges14TopTest {
    public static void main(String[] args) {
        Check check = new Check("edges of promise 14");
        check.sentence("at the point (-1000.0 .. 1000.0 each)", Edges14TopTest::points);
        check.sentence("and time", Edges14TopTest::times);
        check.sentence("The ROOT HASN'T it: nothing there.", Edges14TopTest::nothing);
        check.end();
    }

    /** Tiles that leave no point out. */
    private static SceneEasel everywhere() {
        SceneEasel easel = Scenes.shape(1, 1.0, 1.0);
        easel.mode(0, 2, 1.0);
        return easel;
    }

    private static void points(Check check) {
        Range.ofNumber(check, Edges14TopTest::everywhere, "top(?, 0.0, 0.0)", -1000.0, 1000.0,
                (e, a) -> e.top(a, 0.0, 0.0));
        Range.ofNumber(check, Edges14TopTest::everywhere, "top(0.0, ?, 0.0)", -1000.0, 1000.0,
                (e, b) -> e.top(0.0, b, 0.0));
        SceneEasel easel = everywhere();
        for (double far : new double[] {-1000.0, -999.875, 999.875, 1000.0}) {
            check.has(easel, far, far, 1);
            check.has(easel, far, -far, 1);
        }
        for (double far : new double[] {-1000.125, 1000.125}) {
            check.bad(Scenes::empty, "top(" + far + ", 0.0, 0.0), nothing there", e -> e.top(far, 0.0, 0.0));
            check.bad(Scenes::empty, "top(0.0, " + far + ", 0.0), nothing there", e -> e.top(0.0, far, 0.0));
        }
    }

    private static void times(Check check) {
        Range.ofNumber(check, Edges14TopTest::everywhere, "top(0.5, 0.5, ?)", 0.0, 1000.0,
                (e, time) -> e.top(0.5, 0.5, time));
        SceneEasel easel = Scenes.groupOf(1);
        easel.key(2, 0, 0.0, 0.0);
        easel.key(1, 1, 1000.0, 8.0);
        easel.key(2, 0, 1000.0, 100.0);
        check.due("at 0.0", easel.top(0.0, 8.0, 0.0), 2);
        check.due("at 1000.0", easel.top(101.0, 9.0, 1000.0), 2);
        check.nothingThere("left of it at 1000.0", easel, e -> e.top(99.875, 9.0, 1000.0));
        check.due("there right before it", easel.top(99.984375, 9.0, Math.nextDown(1000.0)), 2);
    }

    private static void nothing(Check check) {
        check.nothingThere(Scenes::empty, "top in an empty root", e -> e.top(0.0, 0.0, 0.0));
        check.nothingThere(() -> Scenes.groupOf(0), "top in an empty group", e -> e.top(0.0, 0.0, 0.0));
        check.nothingThere(() -> Scenes.chain(5), "top in empty groups", e -> e.top(0.0, 0.0, 0.0));
        check.nothingThere(() -> Scenes.groupOf(12), "right of twelve", e -> e.top(1.125, 0.0, 0.0));
        check.nothingThere(Scenes::rich, "in a hidden group alone", e -> e.top(0.75, 0.75, 0.0));
        SceneEasel easel = Scenes.groupOf(1);
        check.has(easel, 1.0, 1.0, 2);
        check.hasNot(easel, Math.nextUp(1.0), 1.0);
        check.hasNot(easel, 1.0, Math.nextUp(1.0));
        easel.hide(2, true);
        check.hasNot(easel, 1.0, 1.0);
        easel.hide(2, false);
        easel.remove(2);
        check.hasNot(easel, 1.0, 1.0);
    }
}
