import java.util.function.Supplier;

/** The range of one argument: its edges, the numbers next to them inside, and those next to them outside. */
final class Range {
    interface WholeCall {
        void on(SceneEasel easel, int value);
    }

    interface NumberCall {
        void on(SceneEasel easel, double value);
    }

    private Range() {
    }

    /** The call is written with a ? where the argument stands. */
    static void ofWhole(Check check, Supplier<SceneEasel> scene, String call, int least, int most, WholeCall deed) {
        for (int fine : new int[] {least, least + 1, most - 1, most}) {
            check.fine(scene, call.replace("?", "" + fine), e -> deed.on(e, fine));
        }
        for (int out : new int[] {least - 1, most + 1, Integer.MIN_VALUE, Integer.MAX_VALUE}) {
            check.bad(scene, call.replace("?", "" + out), e -> deed.on(e, out));
        }
    }

    /** A range in which every double counts. */
    static void ofNumber(Check check, Supplier<SceneEasel> scene, String call, double least, double most,
            NumberCall deed) {
        for (double fine : new double[] {least, Math.nextUp(least), Math.nextDown(most), most}) {
            check.fine(scene, call.replace("?", "" + fine), e -> deed.on(e, fine));
        }
        outside(check, scene, call, least, most, deed);
    }

    /** A range of which only the numbers count that are a grain apart, the edges among them. */
    static void ofGrains(Check check, Supplier<SceneEasel> scene, String call, double[] edges, double grain,
            NumberCall deed) {
        double least = edges[0];
        double most = edges[1];
        for (double fine : new double[] {least, least + grain, most - grain, most}) {
            check.fine(scene, call.replace("?", "" + fine), e -> deed.on(e, fine));
        }
        for (double between : new double[] {Math.nextUp(least), least + grain / 2.0, Math.nextDown(least + grain),
            Math.nextUp(most - grain), most - grain / 2.0, Math.nextDown(most)}) {
            check.bad(scene, call.replace("?", "" + between), e -> deed.on(e, between));
        }
        check.bad(scene, call.replace("?", "" + (least - grain)), e -> deed.on(e, least - grain));
        check.bad(scene, call.replace("?", "" + (most + grain)), e -> deed.on(e, most + grain));
        outside(check, scene, call, least, most, deed);
    }

    private static void outside(Check check, Supplier<SceneEasel> scene, String call, double least, double most,
            NumberCall deed) {
        for (double out : new double[] {Math.nextDown(least), least - 1.0, -1e300, Double.NEGATIVE_INFINITY,
            Math.nextUp(most), most + 1.0, 1e300, Double.POSITIVE_INFINITY, Double.NaN}) {
            check.bad(scene, call.replace("?", "" + out), e -> deed.on(e, out));
        }
    }
}
