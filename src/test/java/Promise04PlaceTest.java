final class Promise04PlaceTest {
    public static void main(String[] args) {
        Check check = new Check("promise 4, place");
        SceneEasel easel = Scenes.shape(1, 2.0, 1.0);
        easel.place(1, 3.5, -4.125);
        check.box(easel, 1, 0.0, 3.5, -4.125, 5.5, -3.125);
        check.due("top(3.5, -4.125, 0.0)", easel.top(3.5, -4.125, 0.0), 1);
        check.nothingThere("top(3.375, -4.125, 0.0)", easel, e -> e.top(3.375, -4.125, 0.0));
        easel.place(1, 100.0, -100.0);
        check.box(easel, 1, 0.0, 100.0, -100.0, 102.0, -99.0);
        easel.place(1, -100.0, 100.0);
        check.box(easel, 1, 0.0, -100.0, 100.0, -98.0, 101.0);
        easel.place(1, -2.0, -0.0);
        check.box(easel, 1, 0.0, -2.0, 0.0, 0.0, 1.0);
        inGroups(check);
        wrongInputs(check);
        check.end();
    }

    private static void inGroups(Check check) {
        SceneEasel easel = new SceneEasel();
        easel.node(0, 0, 1);
        easel.node(1, 0, 1);
        easel.node(2, 1, 1);
        easel.place(1, 10.0, 1.0);
        easel.place(2, 20.0, 2.0);
        easel.place(3, 30.0, 3.0);
        check.box(easel, 3, 0.0, 30.0, 3.0, 31.0, 4.0);
        check.box(easel, 2, 0.0, 50.0, 5.0, 51.0, 6.0);
        check.box(easel, 1, 0.0, 60.0, 6.0, 61.0, 7.0);
        check.box(easel, 0, 0.0, 60.0, 6.0, 61.0, 7.0);
        check.due("top(60.0, 7.0, 0.0)", easel.top(60.0, 7.0, 0.0), 3);
    }

    private static void wrongInputs(Check check) {
        for (int n : new int[] {-1, 0, 10, 13, 14, Integer.MAX_VALUE}) {
            check.bad(Scenes::mixed, "place(" + n + ", 1.0, 1.0)", e -> e.place(n, 1.0, 1.0));
        }
        for (double place : new double[] {100.125, -100.125, 1e300, 0.0625, -99.9, 1e-300, Double.NaN,
            Double.POSITIVE_INFINITY, Double.NEGATIVE_INFINITY}) {
            check.bad(Scenes::mixed, "place(4, " + place + ", 1.0)", e -> e.place(4, place, 1.0));
            check.bad(Scenes::mixed, "place(1, 1.0, " + place + ")", e -> e.place(1, 1.0, place));
        }
    }
}
