/** Promise 10, sentence by sentence, at its edges. */
final class Edges10IntoTest {
    public static void main(String[] args) {
        Check check = new Check("edges of promise 10");
        check.sentence("The NODE, with all in it, becomes the last one of the GROUP", Edges10IntoTest::withAllInIt);
        check.sentence("(the ROOT, too; its own PARENT, too)", Edges10IntoTest::rootAndParent);
        check.sentence("The GROUP is it or in it", Edges10IntoTest::itOrInIt);
        check.sentence("or something would be more than 5 deep: IllegalStateException", Edges10IntoTest::deep);
        check.sentence("(the nodes it is for)", Edges10IntoTest::nodes);
        check.end();
    }

    private static void withAllInIt(Check check) {
        SceneEasel easel = Scenes.rich();
        easel.into(1, 6);
        check.due("its parent", easel.told(1, 1), 6);
        check.due("behind the one that was there", easel.told(1, 3), 1);
        check.due("in the group now", easel.told(6, 2), 2);
        check.due("in the root now", easel.told(0, 2), 2);
        check.due("6 is the first of the root", easel.told(6, 3), 0);
        check.due("8 is the second of the root", easel.told(8, 3), 1);
        check.due("still in it", easel.told(1, 2), 3);
        check.due("the wedge in 4", easel.told(5, 1), 4);
        check.due("its key frames", easel.told(3, 4), 11);
        check.due("count(0)", easel.count(0), 13);
        check.due("count(1)", easel.count(1), 11);
        SceneEasel empty = Scenes.groupOf(0);
        empty.node(0, 1, 1);
        empty.into(2, 1);
        check.due("the first one of an empty group", empty.told(2, 3), 0);
        check.due("left in the root", empty.told(0, 2), 1);
        SceneEasel full = Scenes.full();
        full.into(13, 1);
        check.due("14 are there, and it moves", full.told(13, 1), 1);
        check.due("count(0)", full.count(0), 14);
    }

    private static void rootAndParent(Check check) {
        SceneEasel easel = Scenes.rich();
        easel.into(5, 0);
        check.due("into the root", easel.told(5, 1), 0);
        check.due("the last one of the root", easel.told(5, 3), 3);
        check.due("left in 4", easel.told(4, 2), 0);
        for (int n = 1; n <= 4; n++) {
            SceneEasel row = new SceneEasel();
            for (int k = 1; k <= 4; k++) {
                row.node(0, 1, k);
            }
            row.into(n, 0);
            for (int k = 1; k <= 4; k++) {
                check.due("place of " + k + " when " + n + " went last", row.told(k, 3),
                        k == n ? 3 : k < n ? k - 1 : k - 2);
            }
            check.due("told(0, 2)", row.told(0, 2), 4);
            check.has(row, 0.5, 0.5, n);
        }
        SceneEasel one = Scenes.groupOf(1);
        one.into(2, 1);
        check.due("the one of its parent", one.told(2, 3), 0);
        for (int n = 1; n <= 5; n++) {
            int any = n;
            check.fine(() -> Scenes.chain(5), "into(" + n + ", " + (n - 1) + ")", e -> e.into(any, any - 1));
        }
    }

    private static void itOrInIt(Check check) {
        for (int depth = 1; depth <= 5; depth++) {
            int chain = depth;
            for (int n = 1; n <= depth; n++) {
                int moved = n;
                for (int group = n; group <= depth; group++) {
                    int target = group;
                    check.noRoom(() -> Scenes.chain(chain), "into(" + n + ", " + group + ")",
                            e -> e.into(moved, target));
                }
                for (int group = 0; group < n; group++) {
                    int target = group;
                    check.fine(() -> Scenes.chain(chain), "into(" + n + ", " + group + ")",
                            e -> e.into(moved, target));
                }
            }
        }
        SceneEasel pair = Scenes.chain(2);
        pair.into(2, 0);
        check.due("no longer in it", Check.outcome(pair, e -> e.into(1, 2)), "nothing thrown");
        check.due("now in it", Check.outcome(pair, e -> e.into(2, 1)), "IllegalStateException");
    }

    /** The moved one, with the levels in it, comes below a group of some depth: both together must not pass 5. */
    private static void deep(Check check) {
        for (int target = 0; target <= 5; target++) {
            for (int levels = 1; levels <= 5; levels++) {
                int above = target;
                int below = levels;
                String call = levels + " levels into a group " + target + " deep";
                Check.Deed deed = e -> e.into(above + 1, above);
                if (target + levels <= 5) {
                    check.fine(() -> twoChains(above, below), call, deed);
                    SceneEasel easel = twoChains(above, below);
                    deed.on(easel);
                    check.due("the deepest depth", easel.count(3), Math.max(target, target + levels));
                } else {
                    check.noRoom(() -> twoChains(above, below), call, deed);
                }
            }
        }
        check.noRoom(Scenes::rich, "into(1, 10), where one of three in it would be too deep", e -> e.into(1, 10));
        check.fine(Scenes::rich, "into(1, 10) without that one", e -> {
            e.into(5, 0);
            e.into(1, 10);
        });
    }

    private static SceneEasel twoChains(int above, int below) {
        SceneEasel easel = Scenes.chain(above);
        for (int k = 0; k < below; k++) {
            easel.node(k == 0 ? 0 : above + k, k == below - 1 ? 1 : 0, 1);
        }
        return easel;
    }

    private static void nodes(Check check) {
        for (int n : new int[] {-1, 0, 13, 14, Integer.MIN_VALUE, Integer.MAX_VALUE}) {
            check.bad(Scenes::rich, "into(" + n + ", 6)", e -> e.into(n, 6));
            check.bad(Scenes::rich, "into(" + n + ", 0)", e -> e.into(n, 0));
        }
        for (int group : new int[] {-1, 2, 3, 5, 7, 12, 13, 14, Integer.MIN_VALUE, Integer.MAX_VALUE}) {
            check.bad(Scenes::rich, "into(8, " + group + ")", e -> e.into(8, group));
            check.bad(Scenes::rich, "into(7, " + group + ")", e -> e.into(7, group));
        }
        for (int n = 1; n <= 13; n++) {
            int any = n;
            check.fine(Scenes::full, "into(" + n + ", 0)", e -> e.into(any, 0));
        }
    }
}
