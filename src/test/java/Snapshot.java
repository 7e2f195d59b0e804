/** What can be seen of an easel from outside, as a text. */
final class Snapshot {
    private Snapshot() {
    }

    /** All that is seen without painting; it takes some 410 calls. */
    static String of(SceneEasel easel) {
        StringBuilder text = new StringBuilder();
        for (int what = 0; what < 4; what++) {
            text.append("count ").append(what).append(' ').append(easel.count(what)).append('\n');
        }
        for (int n = 0; n < 14; n++) {
            node(text, easel, n);
        }
        for (int k = 0; k < 36; k++) {
            double a = k % 6 * 3.0 - 0.5;
            double b = k / 6 * 2.5 - 0.5;
            point(text, easel, a, b);
        }
        cells(text, easel);
        return text.toString();
    }

    /** What two pictures would be; it takes some 390 calls. */
    static String painted(SceneEasel easel) {
        StringBuilder text = new StringBuilder();
        for (double time : new double[] {0.0, 12.0}) {
            text.append("paint ").append(time).append(' ').append(easel.paint(time)).append('\n');
            cells(text, easel);
        }
        return text.append(easel.count(2)).toString();
    }

    private static void cells(StringBuilder text, SceneEasel easel) {
        for (int k = 0; k < 192; k++) {
            text.append(easel.cell(k % 16, k / 16)).append(k % 16 == 15 ? '\n' : ' ');
        }
    }

    private static void node(StringBuilder text, SceneEasel easel, int n) {
        text.append("node ").append(n);
        try {
            for (int what = 0; what < 5; what++) {
                text.append(' ').append(easel.told(n, what));
            }
            for (int k = 0; k < 8; k++) {
                text.append(' ').append(easel.around(n, k % 4, k / 4 * 17.0));
            }
        } catch (RuntimeException e) {
            text.append(' ').append(e.getClass().getSimpleName());
        }
        text.append('\n');
    }

    private static void point(StringBuilder text, SceneEasel easel, double a, double b) {
        text.append("top ").append(a).append(' ').append(b).append(' ');
        try {
            text.append(easel.top(a, b, 3.0));
        } catch (RuntimeException e) {
            text.append(e.getClass().getSimpleName());
        }
        text.append('\n');
    }
}
