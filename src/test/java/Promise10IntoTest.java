final class Promise10IntoTest {
    public static void main(String[] args) {
        Check check = new Check("promise 10, into");
        moves(check);
        ownParent(check);
        depths(check);
        wrongInputs(check);
        check.end();
    }

    private static void moves(Check check) {
        SceneEasel easel = Scenes.mixed();
        easel.key(1, 0, 1.0, 1.0);
        easel.into(1, 6);
        check.due("its parent", easel.told(1, 1), 6);
        check.due("it is the last one", easel.told(1, 3), 1);
        check.due("children of 6", easel.told(6, 2), 2);
        check.due("children of the root", easel.told(0, 2), 2);
        check.due("4 moved up", easel.told(4, 3), 0);
        check.due("what is in it came along", easel.told(2, 1), 1);
        check.due("its order is left", easel.told(3, 3), 1);
        check.due("its key frames came along", easel.told(1, 4), 1);
        check.due("count(0)", easel.count(0), 10);
        check.due("count(1)", easel.count(1), 6);
        easel.into(2, 0);
        check.due("into the root", easel.told(2, 1), 0);
        check.due("the last one of the root", easel.told(2, 3), 2);
        check.due("3 moved up", easel.told(3, 3), 0);
        check.box(easel, 2, 0.0, 0.0, 0.0, 2.0, 3.0);
    }

    private static void ownParent(Check check) {
        SceneEasel easel = new SceneEasel();
        for (int n = 1; n <= 3; n++) {
            easel.node(0, 1, n);
        }
        easel.into(1, 0);
        int[] places = {2, 0, 1};
        for (int n = 1; n <= 3; n++) {
            check.due("told(" + n + ", 3)", easel.told(n, 3), places[n - 1]);
        }
        check.due("children of the root", easel.told(0, 2), 3);
        check.due("now on top", easel.top(0.5, 0.5, 0.0), 1);
        easel.into(1, 0);
        check.due("the last one stays the last one", easel.told(1, 3), 2);
        SceneEasel deep = Scenes.mixed();
        deep.into(9, 8);
        check.due("5 deep into its own parent", deep.told(9, 1), 8);
    }

    private static void depths(Check check) {
        SceneEasel easel = Scenes.mixed();
        easel.into(4, 8);
        check.due("a shape may be 5 deep", easel.told(4, 1), 8);
        easel = Scenes.mixed();
        easel.into(1, 7);
        check.due("its children may be 5 deep", easel.told(2, 1), 1);
        check.due("count(3)", easel.count(3), 5);
        easel = Scenes.mixed();
        easel.into(6, 1);
        check.due("a chain of four, 2 deep", easel.told(6, 3), 2);
        check.noRoom(Scenes::mixed, "into(4, 9), 6 deep", e -> e.into(4, 9));
        check.noRoom(Scenes::mixed, "into(1, 8), its children 6 deep", e -> e.into(1, 8));
        check.noRoom(Scenes::mixed, "into(5, 1), a chain of five", e -> e.into(5, 1));
        for (int group = 5; group <= 9; group++) {
            int inner = group;
            check.noRoom(Scenes::mixed, "into(5, " + group + ")", e -> e.into(5, inner));
        }
        check.noRoom(Scenes::mixed, "into(9, 9)", e -> e.into(9, 9));
        check.noRoom(Scenes::mixed, "into(7, 8)", e -> e.into(7, 8));
        SceneEasel shallow = new SceneEasel();
        shallow.node(0, 0, 1);
        shallow.node(1, 0, 1);
        shallow.into(2, 0);
        shallow.into(1, 2);
        check.due("turned round", shallow.told(1, 1), 2);
        check.due("into itself", Check.outcome(shallow, e -> e.into(2, 2)), "IllegalStateException");
        check.due("into its own child", Check.outcome(shallow, e -> e.into(2, 1)), "IllegalStateException");
    }

    private static void wrongInputs(Check check) {
        for (int n : new int[] {-1, 0, 10, 14, Integer.MIN_VALUE}) {
            check.bad(Scenes::mixed, "into(" + n + ", 5)", e -> e.into(n, 5));
            check.bad(Scenes::mixed, "into(" + n + ", " + n + ")", e -> e.into(n, n));
        }
        for (int group : new int[] {-1, 2, 3, 4, 10, 14, Integer.MAX_VALUE}) {
            check.bad(Scenes::mixed, "into(1, " + group + ")", e -> e.into(1, group));
            check.bad(Scenes::mixed, "into(4, " + group + ")", e -> e.into(4, group));
        }
    }
}
