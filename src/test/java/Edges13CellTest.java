/** Promise 13, sentence by sentence, at its edges. */
final class Edges13CellTest {
    public static void main(String[] args) {
        Check check = new Check("edges of promise 13");
        check.sentence("i 0 .. 15", Edges13CellTest::columns);
        check.sentence("j 0 .. 11", Edges13CellTest::rows);
        check.sentence("Cell (i, j) of the picture", Edges13CellTest::cells);
        check.end();
    }

    private static void columns(Check check) {
        for (int j : new int[] {0, 1, 10, 11}) {
            Range.ofWhole(check, Scenes::rich, "cell(?, " + j + ")", 0, 15, (e, i) -> e.cell(i, j));
        }
    }

    private static void rows(Check check) {
        for (int i : new int[] {0, 1, 11, 12, 14, 15}) {
            Range.ofWhole(check, Scenes::rich, "cell(" + i + ", ?)", 0, 11, (e, j) -> e.cell(i, j));
        }
    }

    /** Each cell is painted alone once, and no other one then shows it. */
    private static void cells(Check check) {
        for (int k = 0; k < 192; k++) {
            SceneEasel easel = Scenes.shape(1, 0.75, 0.75);
            easel.place(1, k % 16, k / 16);
            easel.paint(0.0);
            int coloured = 0;
            for (int other = 0; other < 192; other++) {
                coloured += easel.cell(other % 16, other / 16) == 5 ? 1 : 0;
            }
            check.due("cell(" + k % 16 + ", " + k / 16 + ")", easel.cell(k % 16, k / 16), 5);
            check.due("cells that show it", coloured, 1);
        }
    }
}
