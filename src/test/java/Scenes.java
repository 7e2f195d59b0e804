/** Easels that several tests begin with. */
final class Scenes {
    private Scenes() {
    }

    static SceneEasel empty() {
        return new SceneEasel();
    }

    /**
     * In the root: group 1 (tiles) with box 2 and disc 3, wedge 4, and the groups 5 in the root, 6 in 5, 7 in 6,
     * 8 in 7, 9 in 8, which is 5 deep. Box 2 has four key frames for x and one for the colour. Painted once.
     */
    static SceneEasel mixed() {
        SceneEasel easel = new SceneEasel();
        easel.node(0, 0, 1);
        easel.mode(1, 2, 6.0);
        easel.place(1, 1.0, 1.0);
        easel.node(1, 1, 2);
        easel.lengths(2, 2.0, 3.0);
        easel.node(1, 2, 3);
        easel.place(3, 4.0, 4.0);
        easel.node(0, 3, 4);
        easel.lengths(4, 3.0, 5.0);
        easel.place(4, 9.0, 2.0);
        easel.lay(4, 1, 1);
        for (int n = 5; n <= 9; n++) {
            easel.node(n == 5 ? 0 : n - 1, 0, n);
        }
        easel.key(2, 0, 0.0, 0.0);
        easel.key(2, 0, 10.0, 1.0);
        easel.key(2, 0, 20.0, 2.0);
        easel.key(2, 0, 30.0, 0.5);
        easel.key(2, 3, 5.0, 7.0);
        easel.paint(4.0);
        return easel;
    }

    /**
     * In the root: mask 1 with box 2, disc 3 and the tiles 4 with wedge 5; the hidden group 6 with box 7; the groups
     * 8 to 11, each in the one before, and box 12 in the last one, 5 deep. Disc 3 has two key frames for x and for y,
     * three for the stretch and four for the colour. Painted once; number 13 is free.
     */
    static SceneEasel rich() {
        SceneEasel easel = new SceneEasel();
        int[] groups = {0, 1, 1, 1, 4, 0, 6, 0, 8, 9, 10, 11};
        int[] kinds = {0, 1, 2, 0, 3, 0, 1, 0, 0, 0, 0, 1};
        for (int k = 0; k < groups.length; k++) {
            easel.node(groups[k], kinds[k], k + 1);
        }
        easel.place(1, 1.0, 1.0);
        easel.mode(1, 1, 3.0);
        easel.lengths(2, 7.0, 6.0);
        easel.mode(4, 2, 2.5);
        easel.lengths(5, 1.5, 2.0);
        easel.lay(4, 1, 1);
        easel.place(7, 0.5, 0.5);
        easel.hide(6, true);
        easel.place(8, 10.0, 9.0);
        easel.lay(8, 3, 1);
        easel.lengths(12, 2.0, 1.5);
        for (int k = 0; k < 4; k++) {
            if (k < 2) {
                easel.key(3, 0, k * 10.0, 2.0 + k * 3.0);
                easel.key(3, 1, k * 20.0, 1.0 + k * 4.0);
            }
            if (k < 3) {
                easel.key(3, 2, k * 8.0, k - 1);
            }
            easel.key(3, 3, k * 5.0, 10.0 + k);
        }
        easel.paint(4.0);
        return easel;
    }

    /** The root with one group in it, number 1, and as many boxes in that as are asked for, numbers 2 and on. */
    static SceneEasel groupOf(int boxes) {
        SceneEasel easel = new SceneEasel();
        easel.node(0, 0, 1);
        for (int k = 0; k < boxes; k++) {
            easel.node(1, 1, 2);
        }
        return easel;
    }

    /** Groups 1 to the depth, each in the one before, the first one in the root. */
    static SceneEasel chain(int depth) {
        SceneEasel easel = new SceneEasel();
        for (int k = 0; k < depth; k++) {
            easel.node(k, 0, 1);
        }
        return easel;
    }

    /** All 14 nodes: in the root groups (1, 5, 9, 13), boxes (2, 6, 10), discs (3, 7, 11) and wedges (4, 8, 12). */
    static SceneEasel full() {
        SceneEasel easel = new SceneEasel();
        for (int n = 1; n < 14; n++) {
            easel.node(0, (n - 1) % 4, n);
        }
        return easel;
    }

    /** One shape of the kind, number 1, colour 5, in the root. */
    static SceneEasel shape(int kind, double p, double q) {
        SceneEasel easel = new SceneEasel();
        easel.node(0, kind, 5);
        easel.lengths(1, p, q);
        return easel;
    }
}
