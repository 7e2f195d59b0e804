import java.util.NoSuchElementException;
import java.util.function.Consumer;
import java.util.function.Supplier;

/** What the tests share: each answer is held against the one that is due. */
final class Check {
    /** A call, or several, on an easel. */
    interface Deed {
        void on(SceneEasel easel);
    }

    private final String name;
    private String sentence = "";
    private int asked;
    private int wrong;

    Check(String name) {
        this.name = name;
    }

    /** One sentence of the document, in its own words, with the test that would fail if it were broken. */
    void sentence(String words, Consumer<Check> test) {
        int before = asked;
        sentence = " \"" + words + "\"";
        try {
            test.accept(this);
        } catch (RuntimeException e) {
            // The other sentences are to be asked for all the same.
            due("a call at " + e.getStackTrace()[0], e.getClass().getSimpleName(), "nothing thrown");
        }
        due("questions asked", asked > before, true);
        sentence = "";
    }

    /** Boxed numbers are compared, so that a zero with a sign is another number than zero. */
    void due(String call, Object got, Object want) {
        asked++;
        if (!got.equals(want)) {
            wrong++;
            System.out.println(name + sentence + ": " + call + " answered " + got + ", due is " + want);
        }
    }

    void bad(Supplier<SceneEasel> scene, String call, Deed deed) {
        refused(scene, call, deed, IllegalArgumentException.class);
    }

    void noRoom(Supplier<SceneEasel> scene, String call, Deed deed) {
        refused(scene, call, deed, IllegalStateException.class);
    }

    void nothingThere(Supplier<SceneEasel> scene, String call, Deed deed) {
        refused(scene, call, deed, NoSuchElementException.class);
    }

    /** The easel must then look like a new one of the same scene: what throws has changed nothing. */
    private void refused(Supplier<SceneEasel> scene, String call, Deed deed, Class<?> want) {
        SceneEasel easel = scene.get();
        due(call, outcome(easel, deed), want.getSimpleName());
        due("all that is seen behind " + call, Snapshot.of(easel), Snapshot.of(scene.get()));
        SceneEasel painted = scene.get();
        outcome(painted, deed);
        due("all that is painted behind " + call, Snapshot.painted(painted), Snapshot.painted(scene.get()));
    }

    void fine(Supplier<SceneEasel> scene, String call, Deed deed) {
        due(call, outcome(scene.get(), deed), "nothing thrown");
    }

    void has(SceneEasel easel, double a, double b, int top) {
        due("top(" + a + ", " + b + ", 0.0)", easel.top(a, b, 0.0), top);
    }

    void hasNot(SceneEasel easel, double a, double b) {
        nothingThere("top(" + a + ", " + b + ", 0.0)", easel, e -> e.top(a, b, 0.0));
    }

    /** For calls that must hold for any object, without looking at the rest. */
    void nothingThere(String call, SceneEasel easel, Deed deed) {
        due(call, outcome(easel, deed), NoSuchElementException.class.getSimpleName());
    }

    static String outcome(SceneEasel easel, Deed deed) {
        try {
            deed.on(easel);
            return "nothing thrown";
        } catch (RuntimeException e) {
            return e.getClass().getSimpleName();
        }
    }

    void box(SceneEasel easel, int n, double time, double... sides) {
        for (int side = 0; side < 4; side++) {
            due("around(" + n + ", " + side + ", " + time + ")", easel.around(n, side, time), sides[side]);
        }
    }

    void end() {
        System.out.println(name + ": " + asked + " asked, " + wrong + " wrong");
        if (wrong != 0 || asked == 0) {
            System.exit(1);
        }
    }
}
