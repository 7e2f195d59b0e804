import java.util.Random;
import java.util.function.Supplier;

/**
 * Random runs, the same ones every time, on the program and on the model: each call must end alike.
 * A run stays below the 512 calls that an object is promised for.
 */
final class ModelTest {
    private static final int RUNS = 400;
    private static final int CALLS = 240;

    private final Check check = new Check("random runs against the model");
    private final Random random = new Random(20261115L);
    private SceneEasel easel;
    private ModelEasel model;
    private int run;

    public static void main(String[] args) {
        ModelTest test = new ModelTest();
        for (test.run = 0; test.run < RUNS; test.run++) {
            test.easel = new SceneEasel();
            test.model = new ModelEasel();
            for (int call = 0; call < CALLS; call++) {
                test.someCall();
            }
            test.allCells();
        }
        test.check.end();
    }

    private static Object outcome(Supplier<Object> call) {
        try {
            return call.get();
        } catch (RuntimeException e) {
            return e.getClass().getSimpleName();
        }
    }

    private void both(String call, Supplier<Object> program, Supplier<Object> due) {
        check.due("run " + run + ": " + call, outcome(program), outcome(due));
    }

    private static Supplier<Object> nothing(Runnable call) {
        return () -> {
            call.run();
            return 0;
        };
    }

    /** Mostly in the range, now and then a little out of it. */
    private int whole(int least, int most) {
        return random.nextInt(40) == 0 ? (random.nextBoolean() ? least - 1 : most + 1)
                : least + random.nextInt(most - least + 1);
    }

    /** Eighths, mostly small ones, so that things meet. */
    private double eighths(double least, double most) {
        switch (random.nextInt(40)) {
            case 0:
                return random.nextBoolean() ? least - 0.125 : most + 0.125;
            case 1:
                return random.nextBoolean() ? least : most;
            case 2:
                return least + random.nextInt((int) ((most - least) * 8.0) + 1) / 8.0;
            default:
                double small = random.nextInt(8 * 12) / 8.0 - 2.0;
                return small < least ? least + 1.0 : small > most ? most : small;
        }
    }

    private int number() {
        return random.nextInt(30) == 0 ? random.nextInt(18) - 2 : random.nextInt(Math.min(14, model.count(0) + 1));
    }

    private double time() {
        return eighths(0.0, 1000.0);
    }

    private void someCall() {
        int n = number();
        int group = number();
        switch (random.nextInt(18)) {
            case 0, 1, 2 -> makeNode(group);
            case 3 -> setLengths(n);
            case 4 -> setPlace(n);
            case 5 -> setLaying(n);
            case 6 -> setMode(random.nextInt(3) == 0 ? 0 : group);
            case 7 -> setHidden(n);
            case 8, 9, 10 -> setKey(n);
            case 11 -> takeKeys(n);
            case 12 -> both("into(" + n + ", " + group + ")", nothing(() -> easel.into(n, group)),
                    () -> model.into(n, group));
            case 13 -> takeNode(n);
            case 14 -> paintOrPeek();
            case 15 -> askPoint();
            case 16 -> askBox(n);
            default -> askNumbers(n);
        }
    }

    private void makeNode(int group) {
        int kind = whole(0, 3);
        int colour = whole(1, 15);
        both("node(" + group + ", " + kind + ", " + colour + ")", () -> easel.node(group, kind, colour),
                () -> model.node(group, kind, colour));
    }

    private void setLengths(int n) {
        double p = eighths(0.125, 100.0);
        double q = eighths(0.125, 100.0);
        both("lengths(" + n + ", " + p + ", " + q + ")", nothing(() -> easel.lengths(n, p, q)),
                () -> model.lengths(n, p, q));
    }

    private void setPlace(int n) {
        double x = eighths(-100.0, 100.0);
        double y = eighths(-100.0, 100.0);
        both("place(" + n + ", " + x + ", " + y + ")", nothing(() -> easel.place(n, x, y)),
                () -> model.place(n, x, y));
    }

    private void setLaying(int n) {
        int turn = whole(0, 3);
        int stretch = whole(-2, 2);
        both("lay(" + n + ", " + turn + ", " + stretch + ")", nothing(() -> easel.lay(n, turn, stretch)),
                () -> model.lay(n, turn, stretch));
    }

    private void setMode(int group) {
        int mode = whole(0, 2);
        double step = eighths(1.0, 32.0);
        both("mode(" + group + ", " + mode + ", " + step + ")", nothing(() -> easel.mode(group, mode, step)),
                () -> model.mode(group, mode, step));
    }

    private void setHidden(int n) {
        boolean on = random.nextInt(3) == 0;
        both("hide(" + n + ", " + on + ")", nothing(() -> easel.hide(n, on)), () -> model.hide(n, on));
    }

    private void setKey(int n) {
        int property = whole(0, 3);
        double time = random.nextInt(4) == 0 ? random.nextInt(4) : time();
        double value = property == 2 ? whole(-2, 2) : property == 3 ? whole(1, 15) : eighths(-100.0, 100.0);
        both("key(" + n + ", " + property + ", " + time + ", " + value + ")",
                () -> easel.key(n, property, time, value), () -> model.key(n, property, time, value));
    }

    private void takeKeys(int n) {
        int property = whole(0, 3);
        both("unkey(" + n + ", " + property + ")", nothing(() -> easel.unkey(n, property)),
                () -> model.unkey(n, property));
    }

    /** Large trees are cut down rarely, or none would grow deep. */
    private void takeNode(int n) {
        if (random.nextInt(3) == 0 || model.count(0) > 11) {
            both("remove(" + n + ")", () -> easel.remove(n), () -> model.remove(n));
        }
    }

    private void paintOrPeek() {
        double time = time();
        int i = whole(0, 15);
        int j = whole(0, 11);
        if (random.nextInt(3) == 0) {
            both("paint(" + time + ")", () -> easel.paint(time), () -> model.paint(time));
        }
        both("cell(" + i + ", " + j + ")", () -> easel.cell(i, j), () -> model.cell(i, j));
    }

    private void askPoint() {
        double a = eighths(-1000.0, 1000.0);
        double b = eighths(-1000.0, 1000.0);
        double time = time();
        both("top(" + a + ", " + b + ", " + time + ")", () -> easel.top(a, b, time), () -> model.top(a, b, time));
    }

    private void askBox(int n) {
        int side = whole(0, 3);
        double time = time();
        both("around(" + n + ", " + side + ", " + time + ")", () -> easel.around(n, side, time),
                () -> model.around(n, side, time));
    }

    private void askNumbers(int n) {
        int what = whole(0, 4);
        both("told(" + n + ", " + what + ")", () -> easel.told(n, what), () -> model.told(n, what));
        both("count(" + what + ")", () -> easel.count(what), () -> model.count(what));
    }

    private void allCells() {
        both("paint(1.0)", () -> easel.paint(1.0), () -> model.paint(1.0));
        for (int k = 0; k < 192; k++) {
            int cell = k;
            both("cell " + k, () -> easel.cell(cell % 16, cell / 16), () -> model.cell(cell % 16, cell / 16));
        }
    }
}
