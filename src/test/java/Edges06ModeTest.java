/** Promise 6, sentence by sentence, at its edges. */
final class Edges06ModeTest {
    public static void main(String[] args) {
        Check check = new Check("edges of promise 6");
        check.sentence("The MODE (0 .. 2)", Edges06ModeTest::modes);
        check.sentence("and STEP (1.0 .. 32.0)", Edges06ModeTest::steps);
        check.sentence("of a GROUP, the ROOT too", Edges06ModeTest::groups);
        check.end();
    }

    private static void modes(Check check) {
        for (int group : new int[] {0, 1, 4, 11}) {
            Range.ofWhole(check, Scenes::rich, "mode(" + group + ", ?, 2.0)", 0, 2,
                    (e, mode) -> e.mode(group, mode, 2.0));
        }
        for (int group = 0; group <= 1; group++) {
            SceneEasel easel = Scenes.groupOf(2);
            int in = group;
            easel.place(3, 0.5, 0.0);
            easel.into(2, group);
            easel.into(3, group);
            easel.mode(in, 0, 2.0);
            check.has(easel, 0.25, 0.5, 2);
            check.hasNot(easel, 2.25, 0.5);
            easel.mode(in, 2, 2.0);
            check.has(easel, 2.25, 0.5, 2);
            easel.remove(group == 0 ? 1 : 2);
            easel.mode(in, 1, 2.0);
            check.hasNot(easel, 0.25, 0.5);
        }
    }

    private static void steps(Check check) {
        for (int mode = 0; mode <= 2; mode++) {
            int any = mode;
            for (int group : new int[] {0, 1, 4, 11}) {
                Range.ofNumber(check, Scenes::rich, "mode(" + group + ", " + mode + ", ?)", 1.0, 32.0,
                        (e, step) -> e.mode(group, any, step));
            }
        }
        for (double step : new double[] {1.0, 1.125, 31.875, 32.0}) {
            SceneEasel easel = Scenes.shape(1, 0.5, 0.5);
            easel.mode(0, 2, step);
            check.has(easel, step, 0.0, 1);
            check.has(easel, step + 0.5, 0.0, 1);
            check.has(easel, 0.5, -step, 1);
            check.hasNot(easel, step - 0.125, 0.0);
            check.hasNot(easel, step + 0.625, 0.0);
            check.hasNot(easel, 0.625, -step);
        }
    }

    private static void groups(Check check) {
        for (int n : new int[] {0, 1, 4, 6, 8, 9, 10, 11}) {
            check.fine(Scenes::rich, "mode(" + n + ", 1, 1.0)", e -> e.mode(n, 1, 1.0));
        }
        for (int n : new int[] {-1, 2, 3, 5, 7, 12, 13, 14, Integer.MIN_VALUE, Integer.MAX_VALUE}) {
            check.bad(Scenes::rich, "mode(" + n + ", 1, 1.0)", e -> e.mode(n, 1, 1.0));
        }
    }
}
