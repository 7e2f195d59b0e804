/** What the terms say of numbers, sentence by sentence, at its edges. */
final class EdgesOfNumbersTest {
    public static void main(String[] args) {
        Check check = new Check("edges of the terms, numbers");
        check.sentence("a zero that is told has no sign", EdgesOfNumbersTest::zeros);
        check.sentence("NUMBERS are exact here", EdgesOfNumbersTest::exact);
        check.sentence("places and lengths are eighths, in key frames too", EdgesOfNumbersTest::eighths);
        check.sentence("stretching is by powers of 2, turning by quarters", EdgesOfNumbersTest::nested);
        check.sentence("ROUNDED(y) is floor(y * 64.0) / 64.0.", EdgesOfNumbersTest::rounded);
        check.end();
    }

    /** Check.due tells a zero with a sign from one without. */
    private static void zeros(Check check) {
        double[][] boxes = {{0.0, 0.0, 1.0, 1.0}, {-1.0, 0.0, 0.0, 1.0}, {-1.0, -1.0, 0.0, 0.0}, {0.0, -1.0, 1.0, 0.0}};
        for (double zero : new double[] {0.0, -0.0}) {
            for (int turn = 0; turn <= 3; turn++) {
                SceneEasel placed = Scenes.groupOf(1);
                placed.place(2, zero, zero);
                placed.place(1, zero, zero);
                placed.lay(2, turn, 0);
                check.box(placed, 2, 0.0, boxes[turn]);
                check.box(placed, 1, 0.0, boxes[turn]);
                check.box(placed, 0, 0.0, boxes[turn]);
                placed.lay(1, (4 - turn) % 4, 0);
                check.box(placed, 1, 0.0, boxes[0]);
                SceneEasel keyed = Scenes.shape(1, 1.0, 1.0);
                keyed.lay(1, turn, 0);
                for (int property = 0; property <= 1; property++) {
                    keyed.key(1, property, 1.0, zero);
                    keyed.key(1, property, 2.0, zero);
                }
                for (double time : new double[] {0.0, 1.0, 1.5, 2.0, 3.0}) {
                    check.box(keyed, 1, time, boxes[turn]);
                }
            }
        }
        for (double beside : new double[] {-0.125, 0.125}) {
            SceneEasel easel = Scenes.shape(1, 1.0, 1.0);
            easel.place(1, beside, beside);
            check.box(easel, 1, 0.0, beside, beside, 1.0 + beside, 1.0 + beside);
        }
    }

    /** The smallest box at the farthest place, as deep as can be: nothing of it is lost. */
    private static void exact(Check check) {
        SceneEasel easel = Scenes.chain(4);
        easel.node(4, 1, 1);
        easel.lengths(5, 0.125, 0.125);
        double least = 0.0;
        double size = 0.125;
        for (int n = 5; n >= 1; n--) {
            easel.place(n, 100.0, -100.0);
            easel.lay(n, 0, -2);
            least = least / 4.0 + 100.0;
            size = size / 4.0;
            check.box(easel, n, 0.0, least, -least, least + size, -least + size);
        }
        check.has(easel, least, -least, 5);
        check.has(easel, least + size, -least + size, 5);
        check.hasNot(easel, Math.nextDown(least), -least);
        check.hasNot(easel, least + size, Math.nextUp(-least + size));
    }

    private static void eighths(Check check) {
        for (double eighth : new double[] {0.125, 0.25, 0.875, 1.0, 7.625}) {
            SceneEasel easel = Scenes.shape(1, 1.0, 1.0);
            easel.place(1, eighth, -eighth);
            easel.lengths(1, eighth, eighth);
            check.box(easel, 1, 0.0, eighth, -eighth, 2.0 * eighth, 0.0);
            easel.key(1, 0, 0.0, -eighth);
            easel.key(1, 1, 0.0, eighth);
            check.box(easel, 1, 0.0, -eighth, eighth, 0.0, 2.0 * eighth);
            for (double near : new double[] {eighth + 0.0625, eighth + 0.03125, eighth + 0.1, Math.nextUp(eighth),
                Math.nextDown(eighth)}) {
                check.bad(Scenes::rich, "place(5, " + near + ", 0.0)", e -> e.place(5, near, 0.0));
                check.bad(Scenes::rich, "place(5, 0.0, -" + near + ")", e -> e.place(5, 0.0, -near));
                check.bad(Scenes::rich, "lengths(5, " + near + ", 1.0)", e -> e.lengths(5, near, 1.0));
                check.bad(Scenes::rich, "lengths(5, 1.0, " + near + ")", e -> e.lengths(5, 1.0, near));
                check.bad(Scenes::rich, "key(5, 0, 0.0, " + near + ")", e -> e.key(5, 0, 0.0, near));
                check.bad(Scenes::rich, "key(5, 1, 0.0, -" + near + ")", e -> e.key(5, 1, 0.0, -near));
            }
        }
        SceneEasel easel = Scenes.shape(1, 1.0, 1.0);
        easel.mode(0, 2, 1.0625);
        check.due("steps, times and points are no places", easel.key(1, 3, 0.0625, 1.0), 1);
        check.due("top(1.0625, 0.0, 0.0625)", easel.top(1.0625, 0.0, 0.0625), 1);
    }

    /** Stretches in one another multiply, turns in one another go round. */
    private static void nested(Check check) {
        double size = 1.0 / 16.0;
        for (int sum = -4; sum <= 4; sum++) {
            SceneEasel easel = Scenes.groupOf(1);
            int outer = sum < -2 ? -2 : sum > 2 ? 2 : sum;
            easel.lay(1, 0, outer);
            easel.lay(2, 0, sum - outer);
            check.box(easel, 1, 0.0, 0.0, 0.0, size, size);
            check.has(easel, size, size, 2);
            check.hasNot(easel, Math.nextUp(size), size);
            size = size * 2.0;
        }
        double[][] boxes = {{0.0, 0.0, 3.0, 1.0}, {-1.0, 0.0, 0.0, 3.0}, {-3.0, -1.0, 0.0, 0.0}, {0.0, -3.0, 1.0, 0.0}};
        for (int outer = 0; outer <= 3; outer++) {
            for (int inner = 0; inner <= 3; inner++) {
                SceneEasel easel = Scenes.groupOf(1);
                easel.lengths(2, 3.0, 1.0);
                easel.lay(1, outer, 0);
                easel.lay(2, inner, 0);
                double[] box = boxes[(outer + inner) % 4];
                check.box(easel, 1, 0.0, box);
                check.has(easel, box[0], box[1], 2);
                check.has(easel, box[2], box[3], 2);
                check.hasNot(easel, box[0] - 0.125, box[1]);
                check.hasNot(easel, box[2], box[3] + 0.125);
            }
        }
    }

    /** One in 64.0: at the time u the way is u / 64.0, up or down. */
    private static void rounded(Check check) {
        for (int property = 0; property <= 1; property++) {
            SceneEasel up = Scenes.shape(1, 1.0, 1.0);
            up.key(1, property, 0.0, 3.0);
            up.key(1, property, 64.0, 4.0);
            SceneEasel down = Scenes.shape(1, 1.0, 1.0);
            down.key(1, property, 0.0, 3.0);
            down.key(1, property, 64.0, 2.0);
            for (int part : new int[] {1, 2, 21, 32, 63}) {
                double before = Math.nextDown((double) part);
                double behind = Math.nextUp((double) part);
                check.due("up, before " + part, up.around(1, property, before), 3.0 + (part - 1) / 64.0);
                check.due("up, at " + part, up.around(1, property, part), 3.0 + part / 64.0);
                check.due("up, behind " + part, up.around(1, property, behind), 3.0 + part / 64.0);
                check.due("down, before " + part, down.around(1, property, before), 3.0 - part / 64.0);
                check.due("down, at " + part, down.around(1, property, part), 3.0 - part / 64.0);
                check.due("down, behind " + part, down.around(1, property, behind), 3.0 - (part + 1) / 64.0);
            }
        }
    }
}
