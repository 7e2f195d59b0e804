/** Promise 2, sentence by sentence, at its edges. */
final class Edges02NodeTest {
    public static void main(String[] args) {
        Check check = new Check("edges of promise 2");
        check.sentence("A new NODE of the KIND (0 .. 3)", Edges02NodeTest::kinds);
        check.sentence("and COLOUR (1 .. 15)", Edges02NodeTest::colours);
        check.sentence("the last one of the GROUP (the ROOT, too)", Edges02NodeTest::lastOne);
        check.sentence("14 are there: no room", Edges02NodeTest::full);
        check.sentence("more than 5 deep (the ROOT's CHILDREN are 1 deep): no room", Edges02NodeTest::deep);
        check.sentence("Answers its number, the least free one.", Edges02NodeTest::numbers);
        check.end();
    }

    private static void kinds(Check check) {
        Range.ofWhole(check, Scenes::rich, "node(0, ?, 1)", 0, 3, (e, kind) -> e.node(0, kind, 1));
        Range.ofWhole(check, Scenes::rich, "node(6, ?, 1)", 0, 3, (e, kind) -> e.node(6, kind, 1));
        for (int kind = 0; kind <= 3; kind++) {
            SceneEasel easel = new SceneEasel();
            easel.node(0, kind, 1);
            check.due("told(1, 0)", easel.told(1, 0), kind);
        }
    }

    private static void colours(Check check) {
        for (int kind = 0; kind <= 3; kind++) {
            int any = kind;
            Range.ofWhole(check, Scenes::rich, "node(0, " + kind + ", ?)", 1, 15,
                    (e, colour) -> e.node(0, any, colour));
        }
        for (int colour : new int[] {1, 2, 14, 15}) {
            SceneEasel easel = new SceneEasel();
            easel.node(0, 1, colour);
            easel.paint(0.0);
            check.due("cell(0, 0)", easel.cell(0, 0), colour);
        }
    }

    private static void lastOne(Check check) {
        for (int group = 0; group <= 1; group++) {
            SceneEasel easel = Scenes.groupOf(0);
            int there = group == 0 ? 1 : 0;
            for (int n = 2; n <= 13; n++) {
                easel.node(group, 1, 1);
                check.due("told(" + n + ", 1)", easel.told(n, 1), group);
                check.due("told(" + n + ", 3)", easel.told(n, 3), there);
                there++;
                check.due("told(" + group + ", 2)", easel.told(group, 2), there);
                check.has(easel, 0.5, 0.5, n);
            }
        }
        SceneEasel easel = Scenes.groupOf(3);
        easel.remove(2);
        easel.node(1, 1, 1);
        check.due("a low number is the last one, too", easel.told(2, 3), 2);
        check.has(easel, 0.5, 0.5, 2);
    }

    private static void full(Check check) {
        SceneEasel easel = Scenes.full();
        easel.remove(13);
        check.due("count(0)", easel.count(0), 13);
        check.due("13 are there", easel.node(0, 1, 1), 13);
        check.due("count(0)", easel.count(0), 14);
        for (int kind = 0; kind <= 3; kind++) {
            int any = kind;
            check.noRoom(Scenes::full, "node(0, " + kind + ", 1)", e -> e.node(0, any, 1));
            check.noRoom(Scenes::full, "node(13, " + kind + ", 15)", e -> e.node(13, any, 15));
        }
        for (int n = 1; n <= 13; n++) {
            SceneEasel another = Scenes.full();
            another.remove(n);
            check.due("node when " + n + " went", another.node(0, 1, 1), n);
            check.due("node when 14 are there again", Check.outcome(another, e -> e.node(0, 1, 1)),
                    "IllegalStateException");
        }
        check.bad(Scenes::full, "node(14, 0, 1), full", e -> e.node(14, 0, 1));
        check.bad(Scenes::full, "node(2, 0, 1), full", e -> e.node(2, 0, 1));
        check.bad(Scenes::full, "node(0, -1, 1), full", e -> e.node(0, -1, 1));
        check.bad(Scenes::full, "node(0, 0, 16), full", e -> e.node(0, 0, 16));
    }

    private static void deep(Check check) {
        for (int kind = 0; kind <= 3; kind++) {
            int any = kind;
            for (int depth = 0; depth <= 4; depth++) {
                SceneEasel easel = Scenes.chain(depth);
                check.due("node into a group " + depth + " deep", easel.node(depth, kind, 1), depth + 1);
                check.due("count(3)", easel.count(3), depth + 1);
            }
            check.noRoom(() -> Scenes.chain(5), "node(5, " + kind + ", 1)", e -> e.node(5, any, 1));
        }
        check.bad(() -> Scenes.chain(5), "node(5, 4, 1)", e -> e.node(5, 4, 1));
        check.bad(() -> Scenes.chain(5), "node(5, 0, 0)", e -> e.node(5, 0, 0));
        SceneEasel easel = Scenes.chain(5);
        check.due("beside the deepest one", easel.node(4, 0, 1), 6);
        easel.into(5, 3);
        check.due("into it when it is 4 deep", easel.node(5, 1, 1), 7);
    }

    private static void numbers(Check check) {
        SceneEasel easel = new SceneEasel();
        for (int n = 1; n <= 13; n++) {
            check.due("node", easel.node(0, n == 5 ? 0 : 1, 1), n);
        }
        easel.remove(13);
        easel.remove(1);
        check.due("1 and 13 are free", easel.node(0, 1, 1), 1);
        check.due("13 is free", easel.node(0, 1, 1), 13);
        easel.into(9, 5);
        easel.into(2, 5);
        easel.remove(5);
        check.due("2, 5 and 9 are free", easel.node(0, 1, 1), 2);
        check.due("5 and 9 are free", easel.node(0, 1, 1), 5);
        check.due("9 is free", easel.node(0, 1, 1), 9);
        check.due("none is free", Check.outcome(easel, e -> e.node(0, 1, 1)), "IllegalStateException");
    }
}
