final class Promise07HideTest {
    public static void main(String[] args) {
        Check check = new Check("promise 7, hide");
        SceneEasel easel = new SceneEasel();
        easel.node(0, 1, 1);
        easel.node(0, 0, 2);
        easel.node(2, 1, 3);
        easel.node(2, 1, 4);
        easel.lengths(4, 2.0, 2.0);
        check.due("all seen", easel.top(0.5, 0.5, 0.0), 4);
        easel.hide(4, true);
        check.due("4 hidden", easel.top(0.5, 0.5, 0.0), 3);
        check.box(easel, 2, 0.0, 0.0, 0.0, 1.0, 1.0);
        easel.hide(4, true);
        check.due("4 hidden twice", easel.top(0.5, 0.5, 0.0), 3);
        easel.hide(2, true);
        check.due("the group hidden", easel.top(0.5, 0.5, 0.0), 1);
        easel.hide(4, false);
        check.due("4 not hidden in a hidden group", easel.top(0.5, 0.5, 0.0), 1);
        easel.hide(1, true);
        check.nothingThere("all hidden", easel, e -> e.top(0.5, 0.5, 0.0));
        check.due("paint(0.0)", easel.paint(0.0), 0);
        check.nothingThere("the root's box, all hidden", easel, e -> e.around(0, 0, 0.0));
        easel.hide(2, false);
        check.due("the group seen again", easel.top(0.5, 0.5, 0.0), 4);
        check.due("count(0)", easel.count(0), 5);
        for (int n : new int[] {-1, 0, 10, 14, Integer.MIN_VALUE}) {
            check.bad(Scenes::mixed, "hide(" + n + ", true)", e -> e.hide(n, true));
            check.bad(Scenes::mixed, "hide(" + n + ", false)", e -> e.hide(n, false));
        }
        check.end();
    }
}
