final class Promise11RemoveTest {
    public static void main(String[] args) {
        Check check = new Check("promise 11, remove");
        SceneEasel easel = Scenes.mixed();
        int painted = easel.cell(1, 1);
        check.due("remove(1), a group of two", easel.remove(1), 3);
        check.due("count(0)", easel.count(0), 7);
        check.due("its key frames went", easel.count(1), 0);
        check.due("children of the root", easel.told(0, 2), 2);
        check.due("4 moved up", easel.told(4, 3), 0);
        check.due("5 moved up", easel.told(5, 3), 1);
        check.due("the picture is left", easel.cell(1, 1), painted);
        check.due("there was one", painted, 2 + 5);
        for (int n = 1; n <= 3; n++) {
            int gone = n;
            check.due("told(" + n + ", 0)", Check.outcome(easel, e -> e.told(gone, 0)), "IllegalArgumentException");
        }
        check.due("remove(7), a chain", easel.remove(7), 3);
        check.due("children of 6", easel.told(6, 2), 0);
        check.due("count(3)", easel.count(3), 2);
        check.due("remove(4), a shape", easel.remove(4), 1);
        check.due("the least free one", easel.node(6, 0, 1), 1);
        check.due("remove(5)", easel.remove(5), 3);
        check.due("just the root", easel.count(0), 1);
        lowNumbersInHighOnes(check);
        for (int n : new int[] {-1, 0, 10, 14, Integer.MIN_VALUE, Integer.MAX_VALUE}) {
            check.bad(Scenes::mixed, "remove(" + n + ")", e -> e.remove(n));
        }
        check.end();
    }

    private static void lowNumbersInHighOnes(Check check) {
        SceneEasel easel = new SceneEasel();
        for (int n = 1; n <= 4; n++) {
            easel.node(0, 0, 1);
        }
        easel.into(3, 4);
        easel.into(1, 3);
        check.due("remove(4), with 3 and 1 in it", easel.remove(4), 3);
        check.due("2 is left", easel.told(2, 3), 0);
        check.due("children of the root", easel.told(0, 2), 1);
    }
}
