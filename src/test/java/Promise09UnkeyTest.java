final class Promise09UnkeyTest {
    public static void main(String[] args) {
        Check check = new Check("promise 9, unkey");
        SceneEasel easel = Scenes.shape(1, 1.0, 1.0);
        easel.place(1, 3.0, 4.0);
        easel.lay(1, 0, 1);
        easel.key(1, 0, 1.0, 10.0);
        easel.key(1, 0, 2.0, 11.0);
        easel.key(1, 1, 1.0, 20.0);
        easel.key(1, 2, 1.0, -1.0);
        easel.key(1, 3, 1.0, 9.0);
        check.box(easel, 1, 1.0, 10.0, 20.0, 10.5, 20.5);
        easel.unkey(1, 0);
        check.box(easel, 1, 1.0, 3.0, 20.0, 3.5, 20.5);
        check.due("told(1, 4)", easel.told(1, 4), 3);
        easel.place(1, 5.0, 4.0);
        easel.unkey(1, 2);
        check.box(easel, 1, 1.0, 5.0, 20.0, 7.0, 22.0);
        easel.unkey(1, 1);
        check.box(easel, 1, 1.0, 5.0, 4.0, 7.0, 6.0);
        easel.paint(1.0);
        check.due("the keyed colour", easel.cell(5, 4), 9);
        easel.unkey(1, 3);
        easel.paint(1.0);
        check.due("the colour it was made with", easel.cell(5, 4), 5);
        check.due("count(1)", easel.count(1), 0);
        check.due("key behind unkey", easel.key(1, 0, 5.0, 1.0), 1);
        check.due("none of the old ones came back", easel.around(1, 0, 1.0), 1.0);
        SceneEasel again = Scenes.mixed();
        again.unkey(2, 0);
        again.key(2, 0, 5.0, 3.0);
        check.due("behind the new one alone", again.around(2, 0, 7.0), 3.0);
        check.nothingThere(Scenes::mixed, "unkey(2, 1)", e -> e.unkey(2, 1));
        check.nothingThere(Scenes::mixed, "unkey(2, 2)", e -> e.unkey(2, 2));
        check.nothingThere(Scenes::mixed, "unkey(1, 0)", e -> e.unkey(1, 0));
        for (int n : new int[] {-1, 0, 10, 14, Integer.MAX_VALUE}) {
            check.bad(Scenes::mixed, "unkey(" + n + ", 0)", e -> e.unkey(n, 0));
        }
        for (int property : new int[] {-1, 4, Integer.MIN_VALUE, Integer.MAX_VALUE}) {
            check.bad(Scenes::mixed, "unkey(2, " + property + ")", e -> e.unkey(2, property));
        }
        check.end();
    }
}
