final class Promise03LengthsTest {
    public static void main(String[] args) {
        Check check = new Check("promise 3, lengths");
        shapesHave(check);
        edges(check);
        wrongInputs(check);
        check.end();
    }

    private static void shapesHave(Check check) {
        SceneEasel box = Scenes.shape(1, 3.0, 1.5);
        hits(check, box, new double[][] {{0.0, 0.0}, {3.0, 1.5}, {3.0, 0.0}, {0.0, 1.5}, {1.0, 1.0}});
        misses(check, box, new double[][] {{-0.125, 0.0}, {0.0, -0.125}, {3.125, 1.0}, {1.0, 1.625}});
        SceneEasel disc = Scenes.shape(2, 5.0, 0.125);
        hits(check, disc, new double[][] {{0.0, 0.0}, {3.0, 4.0}, {-4.0, 3.0}, {-5.0, 0.0}, {0.0, -5.0}});
        misses(check, disc, new double[][] {{3.125, 4.0}, {-4.0, -3.125}, {5.125, 0.0}, {5.0, 5.0}});
        SceneEasel wedge = Scenes.shape(3, 4.0, 2.0);
        hits(check, wedge, new double[][] {{0.0, 0.0}, {4.0, 0.0}, {0.0, 2.0}, {2.0, 1.0}, {1.0, 1.5}});
        misses(check, wedge, new double[][] {{2.0, 1.125}, {4.125, 0.0}, {0.0, 2.125}, {-0.125, 0.0}, {1.0, -0.125}});
        wedge.lengths(1, 2.0, 4.0);
        hits(check, wedge, new double[][] {{1.0, 2.0}, {0.0, 4.0}});
        misses(check, wedge, new double[][] {{2.0, 1.0}});
    }

    private static void hits(Check check, SceneEasel easel, double[][] points) {
        for (double[] point : points) {
            check.due("top(" + point[0] + ", " + point[1] + ", 0.0)", easel.top(point[0], point[1], 0.0), 1);
        }
    }

    private static void misses(Check check, SceneEasel easel, double[][] points) {
        for (double[] point : points) {
            check.nothingThere("top(" + point[0] + ", " + point[1] + ", 0.0)", easel,
                    e -> e.top(point[0], point[1], 0.0));
        }
    }

    private static void edges(Check check) {
        check.box(Scenes.shape(1, 0.125, 100.0), 1, 0.0, 0.0, 0.0, 0.125, 100.0);
        check.box(Scenes.shape(1, 100.0, 0.125), 1, 0.0, 0.0, 0.0, 100.0, 0.125);
        check.box(Scenes.shape(2, 99.875, 0.125), 1, 0.0, -99.875, -99.875, 99.875, 99.875);
        check.box(Scenes.shape(2, 0.125, 100.0), 1, 0.0, -0.125, -0.125, 0.125, 0.125);
        check.box(Scenes.shape(3, 0.25, 7.375), 1, 0.0, 0.0, 0.0, 0.25, 7.375);
    }

    private static void wrongInputs(Check check) {
        for (int n : new int[] {-1, 0, 1, 5, 10, 14, Integer.MIN_VALUE}) {
            check.bad(Scenes::mixed, "lengths(" + n + ", 1.0, 1.0)", e -> e.lengths(n, 1.0, 1.0));
        }
        double[] bad = {0.0, -1.0, 0.0625, 100.125, 1e300, 1.0625, 0.3, Double.NaN, Double.POSITIVE_INFINITY,
            Double.NEGATIVE_INFINITY};
        for (int n = 2; n <= 4; n++) {
            int shape = n;
            for (double length : bad) {
                check.bad(Scenes::mixed, "lengths(" + n + ", " + length + ", 1.0)",
                        e -> e.lengths(shape, length, 1.0));
                check.bad(Scenes::mixed, "lengths(" + n + ", 1.0, " + length + ")",
                        e -> e.lengths(shape, 1.0, length));
            }
        }
    }
}
