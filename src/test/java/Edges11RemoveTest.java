/** Promise 11, sentence by sentence, at its edges. */
final class Edges11RemoveTest {
    public static void main(String[] args) {
        Check check = new Check("edges of promise 11");
        check.sentence("The NODE goes, with all in it.", Edges11RemoveTest::withAllInIt);
        check.sentence("Answers how many went.", Edges11RemoveTest::answers);
        check.sentence("(the nodes it is for)", Edges11RemoveTest::nodes);
        check.end();
    }

    private static void withAllInIt(Check check) {
        int[][] gone = {{}, {1, 2, 3, 4, 5}, {2}, {3}, {4, 5}, {5}, {6, 7}, {7}, {8, 9, 10, 11, 12}, {9, 10, 11, 12},
            {10, 11, 12}, {11, 12}, {12}};
        for (int n = 1; n <= 12; n++) {
            SceneEasel easel = Scenes.rich();
            int parent = easel.told(n, 1);
            int beside = easel.told(parent, 2);
            easel.remove(n);
            check.due("count(0) without " + n, easel.count(0), 13 - gone[n].length);
            check.due("children of " + parent + " without " + n, easel.told(parent, 2), beside - 1);
            for (int other = 1; other <= 12; other++) {
                int asked = other;
                boolean went = contains(gone[n], other);
                check.due("told(" + other + ", 0) without " + n, Check.outcome(easel, e -> e.told(asked, 0)),
                        went ? "IllegalArgumentException" : "nothing thrown");
            }
            check.due("its number is free", easel.node(0, 1, 1), gone[n][0]);
            check.due("and new", easel.told(gone[n][0], 4), 0);
        }
        SceneEasel easel = Scenes.rich();
        easel.remove(3);
        check.due("its key frames went", easel.count(1), 0);
        easel.remove(6);
        check.due("8 moved up in the root", easel.told(8, 3), 1);
        check.due("1 is where it was", easel.told(1, 3), 0);
        easel.remove(12);
        check.due("the deepest depth", easel.count(3), 4);
        check.due("the picture stays", easel.count(2), 1);
    }

    private static boolean contains(int[] row, int number) {
        for (int one : row) {
            if (one == number) {
                return true;
            }
        }
        return false;
    }

    private static void answers(Check check) {
        for (int boxes = 0; boxes <= 12; boxes++) {
            check.due("a group of " + boxes, Scenes.groupOf(boxes).remove(1), boxes + 1);
        }
        for (int depth = 1; depth <= 5; depth++) {
            check.due("a chain of " + depth, Scenes.chain(depth).remove(1), depth);
        }
        for (int n = 1; n <= 13; n++) {
            SceneEasel full = Scenes.full();
            check.due("remove(" + n + ")", full.remove(n), 1);
            check.due("count(0)", full.count(0), 13);
        }
    }

    private static void nodes(Check check) {
        for (int n : new int[] {-1, 0, 13, 14, Integer.MIN_VALUE, Integer.MAX_VALUE}) {
            check.bad(Scenes::rich, "remove(" + n + ")", e -> e.remove(n));
        }
        check.bad(Scenes::empty, "remove(0), nothing else there", e -> e.remove(0));
        SceneEasel easel = Scenes.rich();
        easel.remove(8);
        for (int n = 8; n <= 12; n++) {
            int gone = n;
            check.due("remove(" + n + ") again", Check.outcome(easel, e -> e.remove(gone)), "IllegalArgumentException");
        }
    }
}
