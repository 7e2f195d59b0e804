final class Promise08KeyTest {
    public static void main(String[] args) {
        Check check = new Check("promise 8, key");
        gliding(check);
        jumping(check);
        anyOrder(check);
        replacing(check);
        room(check);
        edges(check);
        wrongInputs(check);
        check.end();
    }

    private static void gliding(Check check) {
        SceneEasel easel = Scenes.shape(1, 1.0, 1.0);
        easel.place(1, 50.0, 60.0);
        check.due("key(1, 0, 3.0, 1.0)", easel.key(1, 0, 3.0, 1.0), 1);
        check.due("one frame, before it", easel.around(1, 0, 0.0), 1.0);
        check.due("one frame, at it", easel.around(1, 0, 3.0), 1.0);
        check.due("one frame, behind it", easel.around(1, 0, 9.0), 1.0);
        check.due("y is as set", easel.around(1, 1, 3.0), 60.0);
        check.due("key(1, 0, 6.0, 2.0)", easel.key(1, 0, 6.0, 2.0), 2);
        check.due("key(1, 0, 9.0, -1.0)", easel.key(1, 0, 9.0, -1.0), 3);
        check.due("three frames, before them", easel.around(1, 0, 1.0), 1.0);
        check.due("a third of the way up", easel.around(1, 0, 4.0), 1.0 + 21.0 / 64.0);
        check.due("two thirds of the way up", easel.around(1, 0, 5.0), 1.0 + 42.0 / 64.0);
        check.due("at the middle frame", easel.around(1, 0, 6.0), 2.0);
        check.due("an eighth down", easel.around(1, 0, 6.125), 2.0 - 8.0 / 64.0);
        check.due("one and a half parts of 64 down", easel.around(1, 0, 6.0234375), 2.0 - 2.0 / 64.0);
        check.due("hardly down", easel.around(1, 0, 6.001), 2.0 - 1.0 / 64.0);
        check.due("hardly up", easel.around(1, 0, 3.001), 1.0);
        check.due("at the last frame", easel.around(1, 0, 9.0), -1.0);
        check.due("at the end of time", easel.around(1, 0, 1000.0), -1.0);
        check.due("key(1, 1, 0.0, 0.0)", easel.key(1, 1, 0.0, 0.0), 1);
        check.due("key(1, 1, 7.0, 100.0)", easel.key(1, 1, 7.0, 100.0), 2);
        check.due("y glides as x does", easel.around(1, 1, 3.0), Math.floor(300.0 / 7.0 * 64.0) / 64.0);
        check.due("top where it glides", easel.top(1.328125, 57.25, 4.0), 1);
        check.nothingThere("left of where it glides", easel, e -> e.top(1.3125, 57.25, 4.0));
        easel.place(1, 0.0, 0.0);
        check.due("place matters no more", easel.around(1, 0, 3.0), 1.0);
    }

    private static void jumping(Check check) {
        SceneEasel easel = Scenes.shape(1, 1.0, 1.0);
        easel.lay(1, 0, 1);
        check.due("key(1, 2, 2.0, -2.0)", easel.key(1, 2, 2.0, -2.0), 1);
        check.due("key(1, 2, 4.0, 2.0)", easel.key(1, 2, 4.0, 2.0), 2);
        check.due("key(1, 3, 2.0, 15.0)", easel.key(1, 3, 2.0, 15.0), 1);
        check.due("key(1, 3, 4.0, 1.0)", easel.key(1, 3, 4.0, 1.0), 2);
        check.due("key(1, 3, 6.0, 9.0)", easel.key(1, 3, 6.0, 9.0), 3);
        double[] times = {0.0, 2.0, 3.875, 4.0, 5.0, 6.0, 7.0};
        double[] sizes = {0.25, 0.25, 0.25, 4.0, 4.0, 4.0, 4.0};
        int[] colours = {15, 15, 15, 1, 1, 9, 9};
        easel.lengths(1, 4.0, 4.0);
        for (int k = 0; k < times.length; k++) {
            check.due("stretch at " + times[k], easel.around(1, 2, times[k]), 4.0 * sizes[k]);
            easel.paint(times[k]);
            check.due("colour at " + times[k], easel.cell(0, 0), colours[k]);
        }
        check.due("key frames of all properties", easel.told(1, 4), 5);
        SceneEasel group = new SceneEasel();
        group.node(0, 0, 1);
        group.node(1, 1, 2);
        group.key(1, 0, 0.0, 5.0);
        group.key(1, 2, 0.0, 1.0);
        group.key(1, 3, 0.0, 9.0);
        check.box(group, 1, 0.0, 5.0, 0.0, 7.0, 2.0);
        check.due("a group's key frames", group.top(7.0, 2.0, 0.0), 2);
        group.paint(0.0);
        check.due("a group's colour is not painted", group.cell(5, 0), 2);
    }

    private static void anyOrder(Check check) {
        double[][] orders = {{0, 1, 2, 3}, {3, 2, 1, 0}, {2, 0, 3, 1}, {1, 3, 0, 2}};
        for (double[] order : orders) {
            SceneEasel easel = Scenes.shape(1, 1.0, 1.0);
            for (int k = 0; k < 4; k++) {
                check.due("key", easel.key(1, 1, order[k] * 8.0, order[k] * order[k]), k + 1);
            }
            for (int k = 0; k < 4; k++) {
                check.due("at frame " + k, easel.around(1, 1, k * 8.0), (double) k * k);
            }
            check.due("between the first two", easel.around(1, 1, 4.0), 0.5);
            check.due("between the middle two", easel.around(1, 1, 12.0), 2.5);
            check.due("between the last two", easel.around(1, 1, 20.0), 6.5);
        }
    }

    private static void replacing(Check check) {
        SceneEasel easel = Scenes.mixed();
        check.due("key of the same time, full", easel.key(2, 0, 10.0, -7.0), 4);
        check.due("the new value", easel.around(2, 0, 10.0), -7.0);
        check.due("the one before is left", easel.around(2, 0, 0.0), 0.0);
        check.due("the one behind is left", easel.around(2, 0, 20.0), 2.0);
        check.due("key(2, 0, -0.0, 4.0)", easel.key(2, 0, -0.0, 4.0), 4);
        check.due("the first of them", easel.around(2, 0, 0.0), 4.0);
        check.due("key(2, 3, 5.0, 8.0)", easel.key(2, 3, 5.0, 8.0), 1);
        check.due("told(2, 4)", easel.told(2, 4), 5);
        check.due("count(1)", easel.count(1), 5);
    }

    private static void room(Check check) {
        for (double time : new double[] {5.0, 9.875, 10.125, 31.0, 1000.0}) {
            check.noRoom(Scenes::mixed, "key(2, 0, " + time + ", 1.0)", e -> e.key(2, 0, time, 1.0));
        }
        check.bad(Scenes::mixed, "key(2, 0, 5.0, 100.125), full", e -> e.key(2, 0, 5.0, 100.125));
        check.bad(Scenes::mixed, "key(2, 0, 1000.5, 1.0), full", e -> e.key(2, 0, 1000.5, 1.0));
        SceneEasel easel = Scenes.mixed();
        check.due("another property has room", easel.key(2, 1, 5.0, 1.0), 1);
        check.due("another node has room", easel.key(3, 0, 5.0, 1.0), 1);
    }

    private static void edges(Check check) {
        double[][] fine = {{0, -100.0}, {0, 100.0}, {1, -100.0}, {1, 100.0}, {0, 0.125}, {2, -2.0}, {2, 2.0},
            {2, -0.0}, {3, 1.0}, {3, 15.0}};
        for (double[] one : fine) {
            SceneEasel easel = Scenes.shape(2, 1.0, 1.0);
            check.due("key at 0.0", easel.key(1, (int) one[0], 0.0, one[1]), 1);
            check.due("key at 1000.0", easel.key(1, (int) one[0], 1000.0, one[1]), 2);
        }
        SceneEasel whole = Scenes.shape(1, 1.0, 1.0);
        whole.key(1, 0, 0.0, -100.0);
        whole.key(1, 0, 1000.0, 100.0);
        check.due("at a quarter of all time", whole.around(1, 0, 250.0), -50.0);
        for (double span : new double[] {0.0625, 1e-9, 1e-300}) {
            SceneEasel close = Scenes.shape(1, 1.0, 1.0);
            close.key(1, 0, 0.0, 1.0);
            close.key(1, 0, span, 2.0);
            check.due("half of the way in a span of " + span, close.around(1, 0, span / 2.0), 1.5);
        }
    }

    private static void wrongInputs(Check check) {
        for (int n : new int[] {-1, 0, 10, 14, Integer.MIN_VALUE}) {
            check.bad(Scenes::mixed, "key(" + n + ", 0, 1.0, 1.0)", e -> e.key(n, 0, 1.0, 1.0));
        }
        for (int property : new int[] {-1, 4, Integer.MIN_VALUE, Integer.MAX_VALUE}) {
            check.bad(Scenes::mixed, "key(3, " + property + ", 1.0, 1.0)", e -> e.key(3, property, 1.0, 1.0));
        }
        for (double time : new double[] {-0.125, 1000.125, 1e300, Double.NaN, Double.POSITIVE_INFINITY}) {
            check.bad(Scenes::mixed, "key(3, 0, " + time + ", 1.0)", e -> e.key(3, 0, time, 1.0));
        }
        double[][] bad = {{0, 100.125}, {0, -100.125}, {0, 0.0625}, {0, Double.NaN}, {1, 100.125}, {1, -100.125},
            {1, 0.1}, {1, Double.NEGATIVE_INFINITY}, {2, -3.0}, {2, 3.0}, {2, 0.5}, {2, Double.NaN}, {3, 0.0},
            {3, 16.0}, {3, 1.5}, {3, 14.875}, {3, -1.0}, {3, Double.NaN}};
        for (double[] one : bad) {
            check.bad(Scenes::mixed, "key(3, " + (int) one[0] + ", 1.0, " + one[1] + ")",
                    e -> e.key(3, (int) one[0], 1.0, one[1]));
        }
    }
}
