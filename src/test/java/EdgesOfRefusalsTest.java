/** What the terms say of calls that are refused, sentence by sentence. */
final class EdgesOfRefusalsTest {
    public static void main(String[] args) {
        Check check = new Check("edges of the terms, refusals");
        check.sentence("a NODE that isn't there", EdgesOfRefusalsTest::notThere);
        check.sentence("or is of the wrong KIND", EdgesOfRefusalsTest::wrongKind);
        check.sentence("the ROOT too, but where it's said to be allowed", EdgesOfRefusalsTest::root);
        check.sentence("\"Bad\" is IllegalArgumentException: numbers out of range", EdgesOfRefusalsTest::badComesFirst);
        check.sentence("No room, and what would make a GROUP its own: IllegalStateException.",
                EdgesOfRefusalsTest::noRoom);
        check.sentence("Nothing there: java.util.NoSuchElementException.", EdgesOfRefusalsTest::nothingThere);
        check.sentence("What throws has changed nothing.", EdgesOfRefusalsTest::halfRight);
        check.end();
    }

    private static void notThere(Check check) {
        for (NodeCall call : NodeCall.values()) {
            for (int n : new int[] {-1, 13, 14, Integer.MIN_VALUE, Integer.MAX_VALUE}) {
                check.bad(Scenes::rich, call + " of " + n, e -> call.on(e, n));
            }
            for (int n = 1; n <= 13; n++) {
                int any = n;
                check.bad(Scenes::empty, call + " of " + n + " of a new object", e -> call.on(e, any));
            }
            for (int n : new int[] {8, 10, 12}) {
                check.bad(EdgesOfRefusalsTest::withoutEight, call + " of " + n + ", which went", e -> call.on(e, n));
            }
        }
    }

    /** The scene without group 8, and so without 9 to 12. */
    private static SceneEasel withoutEight() {
        SceneEasel easel = Scenes.rich();
        easel.remove(8);
        return easel;
    }

    private static void wrongKind(Check check) {
        for (NodeCall call : NodeCall.values()) {
            for (int group : new int[] {1, 4, 6, 11}) {
                if (call.forShapes) {
                    check.bad(Scenes::rich, call + " of the group " + group, e -> call.on(e, group));
                } else {
                    check.fine(Scenes::rich, call + " of the group " + group, e -> call.on(e, group));
                }
            }
            for (int shape : new int[] {2, 3, 5, 12}) {
                if (call.forGroups()) {
                    check.bad(Scenes::rich, call + " of the shape " + shape, e -> call.on(e, shape));
                } else {
                    check.fine(Scenes::rich, call + " of the shape " + shape, e -> call.on(e, shape));
                }
            }
        }
        check.bad(Scenes::rich, "a shape into itself", e -> e.into(7, 7));
    }

    private static void root(Check check) {
        for (NodeCall call : NodeCall.values()) {
            if (call.forRoot) {
                check.fine(Scenes::rich, call + " of the root", e -> call.on(e, 0));
            } else {
                check.bad(Scenes::rich, call + " of the root", e -> call.on(e, 0));
                check.bad(Scenes::empty, call + " of the root of a new object", e -> call.on(e, 0));
            }
        }
        check.bad(Scenes::rich, "the root into itself", e -> e.into(0, 0));
        check.bad(Scenes::rich, "the root into what is in it", e -> e.into(0, 6));
    }

    /** Where a call is wrong in two ways, what is Bad is told, not that there is no room or nothing there. */
    private static void badComesFirst(Check check) {
        check.bad(Scenes::full, "node(0, 4, 1), full", e -> e.node(0, 4, 1));
        check.bad(Scenes::full, "node(0, 0, 16), full", e -> e.node(0, 0, 16));
        check.bad(Scenes::full, "node(3, 0, 1), full", e -> e.node(3, 0, 1));
        check.bad(() -> Scenes.chain(5), "node(5, 0, 0), too deep", e -> e.node(5, 0, 0));
        check.bad(Scenes::rich, "key(3, 3, 1.0, 16.0), full", e -> e.key(3, 3, 1.0, 16.0));
        check.bad(Scenes::rich, "key(3, 3, -1.0, 1.0), full", e -> e.key(3, 3, -1.0, 1.0));
        check.bad(Scenes::rich, "unkey(2, -1), none there", e -> e.unkey(2, -1));
        check.bad(Scenes::rich, "into(8, 12), a shape in it", e -> e.into(8, 12));
        check.bad(Scenes::empty, "top(0.0, 0.0, 1001.0), nothing there", e -> e.top(0.0, 0.0, 1001.0));
        check.bad(Scenes::empty, "top(-1001.0, 0.0, 0.0), nothing there", e -> e.top(-1001.0, 0.0, 0.0));
        check.bad(Scenes::empty, "around(0, 4, 0.0), none there", e -> e.around(0, 4, 0.0));
        check.bad(Scenes::empty, "around(0, 0, -1.0), none there", e -> e.around(0, 0, -1.0));
    }

    /** Each with what is right beside it, where there is room. */
    private static void noRoom(Check check) {
        check.fine(Scenes::rich, "the 14th node", e -> e.node(0, 1, 1));
        check.noRoom(Scenes::full, "the 15th node", e -> e.node(0, 1, 1));
        check.fine(() -> Scenes.chain(4), "a node 5 deep", e -> e.node(4, 1, 1));
        check.noRoom(() -> Scenes.chain(5), "a node 6 deep", e -> e.node(5, 1, 1));
        check.fine(Scenes::rich, "the 4th key frame", e -> e.key(3, 2, 999.0, 1.0));
        check.noRoom(Scenes::rich, "the 5th key frame", e -> e.key(3, 3, 999.0, 1.0));
        check.fine(Scenes::rich, "a node moved 5 deep", e -> e.into(7, 11));
        check.noRoom(Scenes::rich, "what is in a node moved 6 deep", e -> e.into(6, 11));
        check.fine(Scenes::rich, "a group into the one it is in", e -> e.into(4, 1));
        check.noRoom(Scenes::rich, "a group into itself", e -> e.into(4, 4));
        check.noRoom(Scenes::rich, "a group into one in it", e -> e.into(1, 4));
    }

    /** Each with what is right beside it, where there is something. */
    private static void nothingThere(Check check) {
        check.fine(Scenes::rich, "unkey(3, 0)", e -> e.unkey(3, 0));
        check.nothingThere(Scenes::rich, "unkey(2, 0)", e -> e.unkey(2, 0));
        check.fine(() -> Scenes.groupOf(1), "top(1.0, 1.0, 0.0)", e -> e.top(1.0, 1.0, 0.0));
        check.nothingThere(() -> Scenes.groupOf(1), "top(1.125, 1.0, 0.0)", e -> e.top(1.125, 1.0, 0.0));
        check.fine(() -> Scenes.groupOf(1), "around(1, 0, 0.0)", e -> e.around(1, 0, 0.0));
        check.nothingThere(() -> Scenes.groupOf(0), "around(1, 0, 0.0)", e -> e.around(1, 0, 0.0));
    }

    /** The right arguments of a wrong call must not be taken over; each of them would be seen. */
    private static void halfRight(Check check) {
        check.bad(Scenes::rich, "lengths(2, 1.5, 0.0)", e -> e.lengths(2, 1.5, 0.0));
        check.bad(Scenes::rich, "lengths(2, 101.0, 1.5)", e -> e.lengths(2, 101.0, 1.5));
        check.bad(Scenes::rich, "place(1, 2.5, 101.0)", e -> e.place(1, 2.5, 101.0));
        check.bad(Scenes::rich, "place(1, 101.0, 2.5)", e -> e.place(1, 101.0, 2.5));
        check.bad(Scenes::rich, "lay(8, 1, 3)", e -> e.lay(8, 1, 3));
        check.bad(Scenes::rich, "lay(8, 4, 0)", e -> e.lay(8, 4, 0));
        check.bad(Scenes::rich, "mode(4, 0, 0.875)", e -> e.mode(4, 0, 0.875));
        check.bad(Scenes::rich, "mode(4, 3, 1.5)", e -> e.mode(4, 3, 1.5));
        check.bad(Scenes::rich, "mode(0, 1, 33.0)", e -> e.mode(0, 1, 33.0));
        check.noRoom(Scenes::rich, "key(3, 3, 12.0, 1.0)", e -> e.key(3, 3, 12.0, 1.0));
        check.nothingThere(Scenes::rich, "unkey(5, 0)", e -> e.unkey(5, 0));
        check.noRoom(Scenes::rich, "into(1, 4)", e -> e.into(1, 4));
        check.noRoom(Scenes::rich, "into(8, 8)", e -> e.into(8, 8));
        check.noRoom(Scenes::rich, "into(4, 11)", e -> e.into(4, 11));
        check.bad(Scenes::rich, "remove(0)", e -> e.remove(0));
        check.bad(Scenes::rich, "paint(1000.125)", e -> e.paint(1000.125));
        check.nothingThere(Scenes::rich, "top(500.0, 500.0, 12.0)", e -> e.top(500.0, 500.0, 12.0));
        check.nothingThere(() -> Scenes.chain(5), "around(1, 0, 12.0)", e -> e.around(1, 0, 12.0));
    }
}
