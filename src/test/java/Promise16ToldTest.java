final class Promise16ToldTest {
    public static void main(String[] args) {
        Check check = new Check("promise 16, told");
        SceneEasel easel = Scenes.mixed();
        int[][] due = {{0, -1, 3, 0, 0}, {0, 0, 2, 0, 0}, {1, 1, 0, 0, 5}, {2, 1, 0, 1, 0}, {3, 0, 0, 1, 0},
            {0, 0, 1, 2, 0}, {0, 5, 1, 0, 0}, {0, 6, 1, 0, 0}, {0, 7, 1, 0, 0}, {0, 8, 0, 0, 0}};
        for (int n = 0; n < due.length; n++) {
            for (int what = 0; what < 5; what++) {
                check.due("told(" + n + ", " + what + ")", easel.told(n, what), due[n][what]);
            }
        }
        for (int property = 0; property < 4; property++) {
            for (int k = 0; k < 4; k++) {
                easel.key(4, property, k, 1.0);
            }
        }
        check.due("told(4, 4), all it can have", easel.told(4, 4), 16);
        easel.unkey(4, 3);
        check.due("told(4, 4) behind unkey", easel.told(4, 4), 12);
        for (int n : new int[] {-1, 10, 13, 14, Integer.MIN_VALUE, Integer.MAX_VALUE}) {
            check.bad(Scenes::mixed, "told(" + n + ", 0)", e -> e.told(n, 0));
        }
        for (int what : new int[] {-1, 5, Integer.MIN_VALUE, Integer.MAX_VALUE}) {
            check.bad(Scenes::mixed, "told(0, " + what + ")", e -> e.told(0, what));
            check.bad(Scenes::mixed, "told(2, " + what + ")", e -> e.told(2, what));
        }
        check.end();
    }
}
