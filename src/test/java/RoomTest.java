import java.lang.management.ManagementFactory;

/** A run's calls share one room that is never cleared, so what 512 of the dearest calls make must stay small. */
final class RoomTest {
    private static final int CALLS = 500;
    /** A tenth of the room's 7.3 million fields and elements, of 8 bytes each. */
    private static final long MOST_BYTES = 730_000L * 8L;

    public static void main(String[] args) {
        Check check = new Check("room");
        frugal(check, "paint", e -> e.paint(7.0));
        frugal(check, "top", e -> e.top(2.5, 1.5, 7.0));
        frugal(check, "around", e -> e.around(0, 0, 7.0));
        frugal(check, "key", e -> e.key(2, 0, 10.0, 1.0));
        frugal(check, "into", e -> e.into(5, 0));
        frugal(check, "node and remove", e -> e.remove(e.node(0, 0, 1)));
        frugal(check, "node that throws", e -> Check.outcome(e, f -> f.node(0, 4, 1)));
        check.end();
    }

    private static void frugal(Check check, String call, Check.Deed deed) {
        SceneEasel easel = Scenes.mixed();
        deed.on(easel);
        long before = bytesMade();
        for (int k = 0; k < CALLS; k++) {
            deed.on(easel);
        }
        long made = bytesMade() - before;
        check.due(CALLS + " times " + call + " make little (" + made + " bytes)", made <= MOST_BYTES, true);
    }

    private static long bytesMade() {
        com.sun.management.ThreadMXBean bean =
                (com.sun.management.ThreadMXBean) ManagementFactory.getThreadMXBean();
        return bean.getThreadAllocatedBytes(Thread.currentThread().getId());
    }
}
