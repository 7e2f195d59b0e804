/** How long an object is used. */
final class EdgesOfCallsTest {
    public static void main(String[] args) {
        Check check = new Check("edges of an object's use");
        check.sentence("An object is used for at most 512 calls after it has been made", EdgesOfCallsTest::lastCall);
        check.end();
    }

    /** What the 511th and the 512th call answer is due still, whatever the ones before were. */
    private static void lastCall(Check check) {
        SceneEasel painted = Scenes.shape(1, 1.0, 1.0);
        for (int call = 3; call <= 510; call++) {
            painted.paint(call);
        }
        check.due("paint, the 511th call", painted.paint(1.0), 1);
        check.due("count(2), the 512th call", painted.count(2), 509);
        SceneEasel made = new SceneEasel();
        for (int pair = 1; pair <= 255; pair++) {
            check.due("node", made.node(0, pair % 4, 1), 1);
            check.due("remove", made.remove(1), 1);
        }
        check.due("node, the 511th call", made.node(0, 1, 1), 1);
        check.due("told, the 512th call", made.told(1, 3), 0);
        SceneEasel keyed = Scenes.shape(1, 1.0, 1.0);
        for (int call = 3; call <= 510; call++) {
            check.due("key", keyed.key(1, 0, call % 4, call % 100), Math.min(call - 2, 4));
        }
        check.due("told, the 511th call", keyed.told(1, 4), 4);
        check.due("around, the 512th call", keyed.around(1, 0, 510 % 4), 510.0 % 100);
        SceneEasel refused = Scenes.full();
        for (int call = 14; call <= 510; call++) {
            check.due("node, refused", Check.outcome(refused, e -> e.node(0, 1, 1)), "IllegalStateException");
        }
        check.due("remove, the 511th call", refused.remove(13), 1);
        check.due("node, the 512th call", refused.node(0, 1, 1), 13);
    }
}
