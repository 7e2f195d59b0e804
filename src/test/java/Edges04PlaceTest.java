/** Promise 4, sentence by sentence, at its edges. */
final class Edges04PlaceTest {
    private static final double[] EDGES = {-100.0, 100.0};

    public static void main(String[] args) {
        Check check = new Check("edges of promise 4");
        check.sentence("The place, each -100.0 .. 100.0.", Edges04PlaceTest::places);
        check.sentence("The place", Edges04PlaceTest::nodes);
        check.end();
    }

    private static void places(Check check) {
        for (int n : new int[] {1, 5, 8, 12}) {
            Range.ofGrains(check, Scenes::rich, "place(" + n + ", ?, 1.5)", EDGES, 0.125, (e, x) -> e.place(n, x, 1.5));
            Range.ofGrains(check, Scenes::rich, "place(" + n + ", 1.5, ?)", EDGES, 0.125, (e, y) -> e.place(n, 1.5, y));
        }
        for (double place : new double[] {-100.0, -99.875, -0.125, 0.0, 0.125, 99.875, 100.0}) {
            SceneEasel easel = Scenes.groupOf(1);
            easel.place(2, place, 0.5);
            check.box(easel, 2, 0.0, place, 0.5, place + 1.0, 1.5);
            check.has(easel, place, 0.5, 2);
            check.hasNot(easel, place - 0.125, 0.5);
            easel.place(1, 0.5, place);
            check.box(easel, 1, 0.0, place + 0.5, place + 0.5, place + 1.5, place + 1.5);
            check.has(easel, place + 0.5, place + 0.5, 2);
            check.hasNot(easel, place + 0.5, place + 0.375);
        }
    }

    private static void nodes(Check check) {
        for (int n = 1; n <= 12; n++) {
            int any = n;
            check.fine(Scenes::rich, "place(" + n + ", 1.0, 1.0)", e -> e.place(any, 1.0, 1.0));
        }
        for (int n : new int[] {-1, 0, 13, 14, Integer.MIN_VALUE, Integer.MAX_VALUE}) {
            check.bad(Scenes::rich, "place(" + n + ", 1.0, 1.0)", e -> e.place(n, 1.0, 1.0));
        }
    }
}
