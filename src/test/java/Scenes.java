/** Easels that several tests begin with. */
final class Scenes {
    private Scenes() {
    }

    static SceneEasel empty() {
        return new SceneEasel();
    }

    /**
     * In the root: group 1 (tiles) with box 2 and disc 3, wedge 4, and the groups 5 in the root, 6 in 5, 7 in 6,
     * 8 in 7, 9 in 8, which is 5 deep. Box 2 has four key frames for x and one for the colour. Painted once.
     */
    static SceneEasel mixed() {
        SceneEasel easel = new SceneEasel();
        easel.node(0, 0, 1);
        easel.mode(1, 2, 6.0);
        easel.place(1, 1.0, 1.0);
        easel.node(1, 1, 2);
        easel.lengths(2, 2.0, 3.0);
        easel.node(1, 2, 3);
        easel.place(3, 4.0, 4.0);
        easel.node(0, 3, 4);
        easel.lengths(4, 3.0, 5.0);
        easel.place(4, 9.0, 2.0);
        easel.lay(4, 1, 1);
        for (int n = 5; n <= 9; n++) {
            easel.node(n == 5 ? 0 : n - 1, 0, n);
        }
        easel.key(2, 0, 0.0, 0.0);
        easel.key(2, 0, 10.0, 1.0);
        easel.key(2, 0, 20.0, 2.0);
        easel.key(2, 0, 30.0, 0.5);
        easel.key(2, 3, 5.0, 7.0);
        easel.paint(4.0);
        return easel;
    }

    /** All 14 nodes: in the root groups (1, 5, 9, 13), boxes (2, 6, 10), discs (3, 7, 11) and wedges (4, 8, 12). */
    static SceneEasel full() {
        SceneEasel easel = new SceneEasel();
        for (int n = 1; n < 14; n++) {
            easel.node(0, (n - 1) % 4, n);
        }
        return easel;
    }

    /** One shape of the kind, number 1, colour 5, in the root. */
    static SceneEasel shape(int kind, double p, double q) {
        SceneEasel easel = new SceneEasel();
        easel.node(0, kind, 5);
        easel.lengths(1, p, q);
        return easel;
    }
}
