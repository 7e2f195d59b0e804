final class Promise13CellTest {
    public static void main(String[] args) {
        Check check = new Check("promise 13, cell");
        SceneEasel easel = Scenes.shape(1, 1.0, 1.0);
        for (int[] cell : new int[][] {{0, 0}, {15, 0}, {0, 11}, {15, 11}, {3, 7}, {7, 3}}) {
            easel.place(1, cell[0], cell[1]);
            easel.paint(0.0);
            for (int[] asked : new int[][] {{0, 0}, {15, 0}, {0, 11}, {15, 11}, {3, 7}, {7, 3}, {11, 0}, {11, 11}}) {
                boolean same = asked[0] == cell[0] && asked[1] == cell[1];
                check.due("cell(" + asked[0] + ", " + asked[1] + ")", easel.cell(asked[0], asked[1]), same ? 5 : 0);
            }
        }
        for (int out : new int[] {-1, 16, Integer.MIN_VALUE, Integer.MAX_VALUE}) {
            check.bad(Scenes::mixed, "cell(" + out + ", 0)", e -> e.cell(out, 0));
        }
        for (int out : new int[] {-1, 12, 15, Integer.MIN_VALUE, Integer.MAX_VALUE}) {
            check.bad(Scenes::mixed, "cell(0, " + out + ")", e -> e.cell(0, out));
        }
        check.end();
    }
}
