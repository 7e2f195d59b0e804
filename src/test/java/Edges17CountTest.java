/** Promise 17, sentence by sentence, at its edges. */
final class Edges17CountTest {
    public static void main(String[] args) {
        Check check = new Check("edges of promise 17");
        check.sentence("NODES (0)", Edges17CountTest::nodes);
        check.sentence("KEY FRAMES (1)", Edges17CountTest::frames);
        check.sentence("pictures painted (2)", Edges17CountTest::pictures);
        check.sentence("the deepest depth (3)", Edges17CountTest::deepest);
        check.sentence("else -1", Edges17CountTest::others);
        check.end();
    }

    private static void nodes(Check check) {
        SceneEasel easel = new SceneEasel();
        for (int there = 1; there <= 13; there++) {
            check.due("count(0)", easel.count(0), there);
            easel.node(0, there % 4, 1);
        }
        check.due("count(0), full", easel.count(0), 14);
        Check.outcome(easel, e -> e.node(0, 1, 1));
        check.due("count(0), full still", easel.count(0), 14);
        for (int n = 13; n >= 1; n--) {
            easel.remove(n);
            check.due("count(0)", easel.count(0), n);
        }
    }

    /** 13 nodes with 16 each are the most there can be. */
    private static void frames(Check check) {
        SceneEasel easel = Scenes.full();
        int there = 0;
        for (int n = 1; n <= 13; n++) {
            for (int k = 0; k < 16; k++) {
                check.due("count(1)", easel.count(1), there);
                easel.key(n, k % 4, k / 4, 1.0);
                there++;
            }
        }
        check.due("count(1), all there can be", easel.count(1), 208);
        easel.unkey(13, 3);
        check.due("count(1) behind unkey", easel.count(1), 204);
        easel.remove(1);
        check.due("count(1) behind remove", easel.count(1), 188);
    }

    private static void pictures(Check check) {
        SceneEasel easel = new SceneEasel();
        for (int painted = 0; painted < 200; painted++) {
            check.due("count(2)", easel.count(2), painted);
            easel.paint(painted);
        }
        Check.outcome(easel, e -> e.paint(1000.125));
        Check.outcome(easel, e -> e.paint(-0.125));
        check.due("count(2) behind paints that throw", easel.count(2), 200);
    }

    private static void deepest(Check check) {
        for (int depth = 0; depth <= 5; depth++) {
            SceneEasel easel = Scenes.chain(depth);
            check.due("count(3)", easel.count(3), depth);
            easel.node(0, 1, 1);
            check.due("count(3) with one beside", easel.count(3), Math.max(depth, 1));
        }
        SceneEasel easel = Scenes.chain(5);
        Check.outcome(easel, e -> e.node(5, 1, 1));
        check.due("count(3) behind a node that throws", easel.count(3), 5);
        easel.hide(1, true);
        check.due("count(3), hidden", easel.count(3), 5);
        for (int n = 5; n >= 1; n--) {
            easel.remove(n);
            check.due("count(3) without " + n, easel.count(3), n - 1);
        }
    }

    private static void others(Check check) {
        for (SceneEasel easel : new SceneEasel[] {new SceneEasel(), Scenes.rich(), Scenes.full()}) {
            for (int what : new int[] {-2, -1, 4, 5, Integer.MIN_VALUE, Integer.MAX_VALUE}) {
                check.due("count(" + what + ")", easel.count(what), -1);
            }
            check.due("count(0) is none of them", easel.count(0) > 0, true);
            check.due("count(3) is none of them", easel.count(3) >= 0, true);
        }
    }
}
