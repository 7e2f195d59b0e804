final class Promise12PaintTest {
    public static void main(String[] args) {
        Check check = new Check("promise 12, paint");
        points(check);
        order(check);
        wholePicture(check);
        for (double time : new double[] {-0.125, 1000.125, -1e300, Double.NaN, Double.POSITIVE_INFINITY,
            Double.NEGATIVE_INFINITY}) {
            check.bad(Scenes::mixed, "paint(" + time + ")", e -> e.paint(time));
        }
        check.end();
    }

    /** A cell is asked at its middle, whose edge counts. */
    private static void points(Check check) {
        SceneEasel easel = Scenes.shape(1, 1.0, 1.0);
        check.due("one cell", easel.paint(0.0), 1);
        easel.place(1, 0.5, 0.5);
        check.due("four middles on the edge", easel.paint(1000.0), 4);
        easel.place(1, 0.625, 0.625);
        check.due("one middle", easel.paint(0.0), 1);
        check.due("cell(1, 1)", easel.cell(1, 1), 5);
        check.due("cell(0, 0) is 0 again", easel.cell(0, 0), 0);
        easel.place(1, 15.0, 11.0);
        check.due("the last cell", easel.paint(0.0), 1);
        check.due("cell(15, 11)", easel.cell(15, 11), 5);
        easel.place(1, 16.0, 0.0);
        check.due("right of the picture", easel.paint(0.0), 0);
        easel.place(1, 0.0, 12.0);
        check.due("above the picture", easel.paint(0.0), 0);
        check.due("count(2)", easel.count(2), 6);
    }

    private static void order(Check check) {
        SceneEasel easel = new SceneEasel();
        easel.node(0, 1, 1);
        easel.lengths(1, 4.0, 4.0);
        easel.node(0, 2, 2);
        easel.lengths(2, 2.0, 1.0);
        easel.node(0, 3, 3);
        easel.lengths(3, 3.0, 3.0);
        easel.place(3, 3.0, 3.0);
        check.due("paint(0.0)", easel.paint(0.0), 16 + 6 - 1);
        int[][] cells = {{0, 0, 2}, {1, 1, 1}, {1, 0, 2}, {2, 0, 1}, {3, 3, 3}, {4, 4, 3}, {5, 3, 3}, {5, 4, 0},
            {3, 5, 3}, {4, 3, 3}, {2, 3, 1}, {4, 0, 0}};
        for (int[] cell : cells) {
            check.due("cell(" + cell[0] + ", " + cell[1] + ")", easel.cell(cell[0], cell[1]), cell[2]);
        }
        easel.into(1, 0);
        easel.paint(0.0);
        check.due("the box on top", easel.cell(0, 0), 1);
        easel.remove(1);
        check.due("not painted yet", easel.cell(3, 0), 1);
        easel.paint(0.0);
        check.due("painted", easel.cell(3, 0), 0);
    }

    private static void wholePicture(Check check) {
        SceneEasel easel = Scenes.shape(1, 100.0, 100.0);
        check.due("all cells", easel.paint(0.0), 192);
        easel.key(1, 3, 0.0, 2.0);
        easel.key(1, 3, 8.0, 3.0);
        easel.key(1, 0, 0.0, 0.0);
        easel.key(1, 0, 8.0, 8.0);
        check.due("half of the way", easel.paint(4.0), 192 - 4 * 12);
        check.due("cell(4, 11)", easel.cell(4, 11), 2);
        check.due("all of the way", easel.paint(8.0), 96);
        check.due("cell(8, 0)", easel.cell(8, 0), 3);
        check.due("cell(7, 0)", easel.cell(7, 0), 0);
    }
}
