/** What the terms say of nodes, sentence by sentence, at its edges. */
final class EdgesOfNodesTest {
    public static void main(String[] args) {
        Check check = new Check("edges of the terms, nodes");
        check.sentence("NODES 0 .. 13", EdgesOfNodesTest::numbers);
        check.sentence("at most 14 at a time", EdgesOfNodesTest::atMost);
        check.sentence("number 0 is always there, the ROOT, a GROUP", EdgesOfNodesTest::root);
        check.sentence("The others have a PARENT, a GROUP, and a place among its CHILDREN, which are in an order.",
                EdgesOfNodesTest::others);
        check.sentence("two LENGTHS p and q (both 1.0 at first)", EdgesOfNodesTest::lengthsAtFirst);
        check.sentence("(0.0, 0.0), 0, 0, as given, not HIDDEN at first", EdgesOfNodesTest::atFirst);
        check.end();
    }

    private static void numbers(Check check) {
        SceneEasel easel = Scenes.full();
        for (int n = 0; n <= 13; n++) {
            check.due("told(" + n + ", 1)", easel.told(n, 1), n == 0 ? -1 : 0);
        }
        for (int n : new int[] {-1, 14}) {
            for (NodeCall call : NodeCall.values()) {
                check.bad(Scenes::full, call + " of " + n, e -> call.on(e, n));
            }
        }
        for (NodeCall call : NodeCall.values()) {
            check.bad(Scenes::rich, call + " of 13, which is free", e -> call.on(e, 13));
            check.fine(Scenes::rich, call + " of the last one there", e -> call.on(e, call.forShapes ? 12 : 11));
        }
    }

    private static void atMost(Check check) {
        for (int round = 0; round < 3; round++) {
            SceneEasel easel = Scenes.rich();
            check.due("the 14th", easel.node(round == 0 ? 0 : round == 1 ? 4 : 11, 1, 1), 13);
            check.due("count(0)", easel.count(0), 14);
            for (int group : new int[] {0, 1, 4, 6, 8, 11}) {
                check.due("the 15th, in " + group, Check.outcome(easel, e -> e.node(group, 1, 1)),
                        "IllegalStateException");
            }
            check.due("count(0)", easel.count(0), 14);
            easel.remove(5);
            check.due("again the 14th", easel.node(0, 1, 1), 5);
        }
    }

    private static void root(Check check) {
        SceneEasel easel = Scenes.full();
        for (int n = 13; n >= 1; n--) {
            easel.remove(n);
            check.due("told(0, 0)", easel.told(0, 0), 0);
        }
        check.due("count(0)", easel.count(0), 1);
        check.due("remove(0)", Check.outcome(easel, e -> e.remove(0)), "IllegalArgumentException");
        check.due("told(0, 0)", easel.told(0, 0), 0);
        check.due("it takes a node again", easel.node(0, 1, 1), 1);
    }

    private static void others(Check check) {
        SceneEasel easel = Scenes.rich();
        for (int n = 1; n <= 12; n++) {
            int parent = easel.told(n, 1);
            check.due("the parent of " + n + " is a group", easel.told(parent, 0), 0);
            int place = easel.told(n, 3);
            check.due("the place of " + n, place >= 0 && place < easel.told(parent, 2), true);
            for (int other = 1; other < n; other++) {
                check.due("places of " + n + " and " + other,
                        easel.told(other, 1) == parent && easel.told(other, 3) >= place, false);
            }
        }
    }

    private static void lengthsAtFirst(Check check) {
        for (int kind = 1; kind <= 3; kind++) {
            SceneEasel easel = new SceneEasel();
            easel.node(0, kind, 1);
            double least = kind == 2 ? -1.0 : 0.0;
            check.box(easel, 1, 0.0, least, least, 1.0, 1.0);
            check.has(easel, 1.0, 0.0, 1);
            check.has(easel, 0.0, 1.0, 1);
            check.has(easel, Math.nextDown(1.0), 0.0, 1);
            check.has(easel, 0.0, Math.nextDown(1.0), 1);
            check.hasNot(easel, Math.nextUp(1.0), 0.0);
            check.hasNot(easel, 0.0, Math.nextUp(1.0));
        }
    }

    /** The number was used before, for a node with all of it set. */
    private static void atFirst(Check check) {
        for (int before = 0; before <= 3; before++) {
            for (int kind = 0; kind <= 3; kind++) {
                SceneEasel easel = Scenes.groupOf(0);
                easel.node(0, before, 1);
                easel.place(2, 5.0, 6.0);
                easel.lay(2, 3, 1);
                easel.hide(2, true);
                for (int property = 0; property <= 3; property++) {
                    easel.key(2, property, 0.0, 2.0);
                }
                easel.remove(2);
                check.due("node", easel.node(0, kind, 9), 2);
                check.due("told(2, 4)", easel.told(2, 4), 0);
                int shape = kind == 0 ? easel.node(2, 1, 9) : 2;
                double least = kind == 2 ? -1.0 : 0.0;
                check.box(easel, 2, 0.0, least, least, 1.0, 1.0);
                check.has(easel, 0.25, 0.75, shape);
                easel.paint(0.0);
                check.due("the colour given", easel.cell(0, 0), 9);
            }
        }
    }
}
