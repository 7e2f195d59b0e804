final class Promise17CountTest {
    public static void main(String[] args) {
        Check check = new Check("promise 17, count");
        SceneEasel easel = Scenes.mixed();
        counts(check, easel, 10, 5, 1, 5);
        easel.key(9, 1, 0.0, 0.0);
        easel.paint(0.0);
        counts(check, easel, 10, 6, 2, 5);
        easel.remove(9);
        counts(check, easel, 9, 5, 2, 4);
        easel.into(7, 0);
        counts(check, easel, 9, 5, 2, 2);
        easel.unkey(2, 0);
        counts(check, easel, 9, 1, 2, 2);
        easel.remove(1);
        easel.remove(7);
        easel.remove(6);
        counts(check, easel, 3, 0, 2, 1);
        check.due("a paint that throws", Check.outcome(easel, e -> e.paint(-1.0)), "IllegalArgumentException");
        counts(check, easel, 3, 0, 2, 1);
        easel.remove(4);
        easel.remove(5);
        counts(check, easel, 1, 0, 2, 0);
        for (int what : new int[] {-1, 4, 5, Integer.MIN_VALUE, Integer.MAX_VALUE}) {
            check.due("count(" + what + ")", easel.count(what), -1);
        }
        check.end();
    }

    private static void counts(Check check, SceneEasel easel, int... due) {
        for (int what = 0; what < 4; what++) {
            check.due("count(" + what + ")", easel.count(what), due[what]);
        }
    }
}
