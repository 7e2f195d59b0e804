/** Promise 9, sentence by sentence, at its edges. */
final class Edges09UnkeyTest {
    public static void main(String[] args) {
        Check check = new Check("edges of promise 9");
        check.sentence("Takes all KEY FRAMES of the property away.", Edges09UnkeyTest::all);
        check.sentence("None: nothing there.", Edges09UnkeyTest::none);
        check.sentence("(the numbers it is for)", Edges09UnkeyTest::numbers);
        check.end();
    }

    /** The box is at (3, 4), twice as large, colour 5, and keyed to (1, 1), twice as large, colour 1. */
    private static SceneEasel keyed(int frames) {
        SceneEasel easel = Scenes.shape(1, 1.0, 1.0);
        easel.place(1, 3.0, 4.0);
        easel.lay(1, 0, 2);
        for (int property = 0; property <= 3; property++) {
            for (int k = 0; k < frames; k++) {
                easel.key(1, property, 1.0 + k, 1.0);
            }
        }
        return easel;
    }

    private static void all(Check check) {
        double[][] boxes = {{3.0, 1.0, 5.0, 3.0}, {1.0, 4.0, 3.0, 6.0}, {1.0, 1.0, 5.0, 5.0}, {1.0, 1.0, 3.0, 3.0}};
        for (int frames = 1; frames <= 4; frames++) {
            for (int property = 0; property <= 3; property++) {
                SceneEasel easel = keyed(frames);
                easel.unkey(1, property);
                check.due("told(1, 4)", easel.told(1, 4), 3 * frames);
                check.due("count(1)", easel.count(1), 3 * frames);
                for (double time : new double[] {0.0, 1.0, 1.0 + frames, 1000.0}) {
                    check.box(easel, 1, time, boxes[property]);
                    easel.paint(time);
                    int colour = easel.cell((int) boxes[property][0], (int) boxes[property][1]);
                    check.due("its colour", colour, property == 3 ? 5 : 1);
                }
                check.due("the first one again", easel.key(1, property, 7.0, 2.0), 1);
            }
        }
    }

    private static void none(Check check) {
        for (int property = 0; property <= 3; property++) {
            int any = property;
            check.nothingThere(() -> Scenes.shape(1, 1.0, 1.0), "unkey(1, " + property + "), never any",
                    e -> e.unkey(1, any));
            check.nothingThere(() -> unkeyed(any), "unkey(1, " + property + ") twice", e -> e.unkey(1, any));
            check.fine(() -> keyed(1), "unkey(1, " + property + "), one there", e -> e.unkey(1, any));
            check.nothingThere(() -> Scenes.groupOf(1), "unkey(1, " + property + ") of a group", e -> e.unkey(1, any));
        }
    }

    private static SceneEasel unkeyed(int property) {
        SceneEasel easel = keyed(4);
        easel.unkey(1, property);
        return easel;
    }

    private static void numbers(Check check) {
        Range.ofWhole(check, Scenes::rich, "unkey(3, ?)", 0, 3, (e, property) -> e.unkey(3, property));
        for (int n : new int[] {-1, 0, 13, 14, Integer.MIN_VALUE, Integer.MAX_VALUE}) {
            check.bad(Scenes::rich, "unkey(" + n + ", 0)", e -> e.unkey(n, 0));
        }
        check.bad(Scenes::rich, "unkey(2, 4), none there", e -> e.unkey(2, 4));
    }
}
