/** Promise 3, sentence by sentence, at its edges. */
final class Edges03LengthsTest {
    private static final double[] EDGES = {0.125, 100.0};

    public static void main(String[] args) {
        Check check = new Check("edges of promise 3");
        check.sentence("The LENGTHS ..., 0.125 .. 100.0", Edges03LengthsTest::lengths);
        check.sentence("of a shape", Edges03LengthsTest::shapes);
        check.sentence("(of a DISC q doesn't matter otherwise)", Edges03LengthsTest::discs);
        check.end();
    }

    private static void lengths(Check check) {
        for (int kind = 1; kind <= 3; kind++) {
            int any = kind;
            Range.ofGrains(check, () -> Scenes.shape(any, 2.0, 3.0), "lengths(1, ?, 3.5)", EDGES, 0.125,
                    (e, p) -> e.lengths(1, p, 3.5));
            Range.ofGrains(check, () -> Scenes.shape(any, 2.0, 3.0), "lengths(1, 2.5, ?)", EDGES, 0.125,
                    (e, q) -> e.lengths(1, 2.5, q));
        }
        for (double length : new double[] {0.125, 0.25, 99.875, 100.0}) {
            SceneEasel box = Scenes.shape(1, length, 1.0);
            check.box(box, 1, 0.0, 0.0, 0.0, length, 1.0);
            check.has(box, length, 1.0, 1);
            check.hasNot(box, length + 0.125, 1.0);
            SceneEasel wedge = Scenes.shape(3, 1.0, length);
            check.box(wedge, 1, 0.0, 0.0, 0.0, 1.0, length);
            check.has(wedge, 0.0, length, 1);
            check.hasNot(wedge, 0.0, length + 0.125);
            SceneEasel disc = Scenes.shape(2, length, 1.0);
            check.box(disc, 1, 0.0, -length, -length, length, length);
            check.has(disc, 0.0, -length, 1);
            check.hasNot(disc, 0.0, -length - 0.125);
        }
    }

    private static void shapes(Check check) {
        for (int n : new int[] {2, 3, 5, 12}) {
            check.fine(Scenes::rich, "lengths(" + n + ", 1.0, 1.0)", e -> e.lengths(n, 1.0, 1.0));
        }
        for (int n : new int[] {-1, 0, 1, 4, 11, 13, 14, Integer.MIN_VALUE, Integer.MAX_VALUE}) {
            check.bad(Scenes::rich, "lengths(" + n + ", 1.0, 1.0)", e -> e.lengths(n, 1.0, 1.0));
        }
    }

    private static void discs(Check check) {
        for (double q : new double[] {0.125, 1.0, 3.0, 100.0}) {
            SceneEasel disc = Scenes.shape(2, 3.0, q);
            check.box(disc, 1, 0.0, -3.0, -3.0, 3.0, 3.0);
            check.has(disc, 0.0, 3.0, 1);
            check.has(disc, -3.0, 0.0, 1);
            check.hasNot(disc, 0.0, 3.125);
            check.hasNot(disc, -3.125, 0.0);
        }
        check.bad(() -> Scenes.shape(2, 2.0, 3.0), "lengths(1, 1.0, 0.0)", e -> e.lengths(1, 1.0, 0.0));
        check.bad(() -> Scenes.shape(2, 2.0, 3.0), "lengths(1, 1.0, 100.125)", e -> e.lengths(1, 1.0, 100.125));
    }
}
