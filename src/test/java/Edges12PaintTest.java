/** Promise 12, and what the terms say of a picture, sentence by sentence, at their edges. */
final class Edges12PaintTest {
    public static void main(String[] args) {
        Check check = new Check("edges of promise 12");
        check.sentence("at the time (0.0 .. 1000.0)", Edges12PaintTest::times);
        check.sentence("each cell becomes the COLOUR ... of THE TOP of the ROOT there, or 0", Edges12PaintTest::cells);
        check.sentence("Answers how many aren't 0.", Edges12PaintTest::answers);
        check.sentence("A picture has 16 by 12 cells", Edges12PaintTest::size);
        check.sentence("cell (i, j)'s point is (i + 0.5, j + 0.5)", Edges12PaintTest::points);
        check.end();
    }

    private static void times(Check check) {
        Range.ofNumber(check, Scenes::rich, "paint(?)", 0.0, 1000.0, SceneEasel::paint);
        Range.ofNumber(check, Scenes::empty, "paint(?)", 0.0, 1000.0, SceneEasel::paint);
        check.fine(Scenes::rich, "paint(-0.0)", e -> e.paint(-0.0));
        SceneEasel easel = Scenes.shape(1, 1.0, 1.0);
        easel.key(1, 3, 0.0, 1.0);
        easel.key(1, 3, 5.0, 2.0);
        easel.key(1, 3, 1000.0, 3.0);
        double[] times = {0.0, Math.nextUp(0.0), Math.nextDown(5.0), 5.0, Math.nextUp(5.0), Math.nextDown(1000.0),
            1000.0};
        int[] colours = {1, 1, 1, 2, 2, 2, 3};
        for (int k = 0; k < times.length; k++) {
            easel.paint(times[k]);
            check.due("the colour at " + times[k], easel.cell(0, 0), colours[k]);
        }
    }

    private static void cells(Check check) {
        SceneEasel easel = Scenes.groupOf(2);
        easel.key(3, 3, 0.0, 15.0);
        easel.paint(0.0);
        check.due("the top's colour", easel.cell(0, 0), 15);
        check.due("nothing there", easel.cell(1, 0), 0);
        easel.hide(3, true);
        check.due("before it is painted again", easel.cell(0, 0), 15);
        easel.paint(0.0);
        check.due("the one below", easel.cell(0, 0), 2);
        easel.place(2, 1.0, 0.0);
        easel.paint(0.0);
        check.due("0 again", easel.cell(0, 0), 0);
        check.due("and beside it", easel.cell(1, 0), 2);
        easel.mode(0, 1, 1.0);
        easel.paint(0.0);
        check.due("a mask alone", easel.cell(1, 0), 0);
    }

    private static void answers(Check check) {
        check.due("nothing there", new SceneEasel().paint(0.0), 0);
        for (int i = 0; i <= 17; i++) {
            for (int j : new int[] {1, 11, 12, 13}) {
                SceneEasel easel = Scenes.shape(1, i == 0 ? 0.25 : i, j);
                check.due("paint of " + i + " by " + j, easel.paint(0.0), Math.min(i, 16) * Math.min(j, 12));
                check.due("the same picture again", easel.paint(0.0), Math.min(i, 16) * Math.min(j, 12));
            }
        }
        SceneEasel two = Scenes.groupOf(2);
        check.due("two in one cell", two.paint(0.0), 1);
        two.place(3, 15.0, 11.0);
        check.due("two in two cells", two.paint(0.0), 2);
        check.due("count(2)", two.count(2), 2);
    }

    private static void size(Check check) {
        SceneEasel easel = Scenes.shape(1, 1.0, 1.0);
        double[][] in = {{0.0, 0.0}, {15.0, 0.0}, {0.0, 11.0}, {15.0, 11.0}};
        double[][] out = {{-1.0, 0.0}, {0.0, -1.0}, {16.0, 0.0}, {0.0, 12.0}, {16.0, 12.0}, {11.0, 15.0}};
        for (double[] place : in) {
            easel.place(1, place[0], place[1]);
            check.due("a box at " + place[0] + ", " + place[1], easel.paint(0.0), 1);
            check.due("its cell", easel.cell((int) place[0], (int) place[1]), 5);
        }
        for (double[] place : out) {
            easel.place(1, place[0], place[1]);
            check.due("a box at " + place[0] + ", " + place[1], easel.paint(0.0), 0);
        }
    }

    /** The box ends, or begins, right before the middle of a cell, at it, and right behind it. */
    private static void points(Check check) {
        double[] ends = {0.375, 0.5, 0.625};
        for (int i : new int[] {0, 7, 15}) {
            for (int j : new int[] {0, 7, 11}) {
                for (int k = 0; k < 3; k++) {
                    boolean reached = k > 0;
                    boolean left = k < 2;
                    check.due("ends at " + ends[k] + " in a", seen(i + ends[k] - 0.25, j + 0.375, i, j), reached);
                    check.due("ends at " + ends[k] + " in b", seen(i + 0.375, j + ends[k] - 0.25, i, j), reached);
                    check.due("begins at " + ends[k] + " in a", seen(i + ends[k], j + 0.375, i, j), left);
                    check.due("begins at " + ends[k] + " in b", seen(i + 0.375, j + ends[k], i, j), left);
                }
            }
        }
    }

    /** Whether a box with sides of a quarter is seen in the cell. */
    private static boolean seen(double x, double y, int i, int j) {
        SceneEasel easel = Scenes.shape(1, 0.25, 0.25);
        easel.place(1, x, y);
        return easel.paint(0.0) == 1 && easel.cell(i, j) == 5;
    }
}
