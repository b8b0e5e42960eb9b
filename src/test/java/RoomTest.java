import java.lang.management.ManagementFactory;

/** All calls of one run live in one room, and nothing leaves it: so what 512 of the dearest calls make is small. */
public final class RoomTest {
    private static final Due DUE = new Due("RoomTest");
    private static final int CALLS = 512;

    public static void main(String[] args) {
        for (int act = 0; act < 6; act++) {
            run(act);
            long before = made();
            run(act);
            long bytes = made() - before;
            // 7.3 million elements and 600,000 objects is the room of a run; this is a small part of it
            DUE.is("bytes of act " + act + ": " + bytes, bytes < 1000000 ? 1 : 0, 1);
        }
        DUE.end();
    }

    private static long made() {
        return ((com.sun.management.ThreadMXBean) ManagementFactory.getThreadMXBean()).getThreadAllocatedBytes(
            Thread.currentThread().getId());
    }

    private static void run(int act) {
        GreenPath x = new GreenPath();
        x.be(0, 4);
        x.be(1, 4);
        x.be(2, 4);
        x.law(0, 50);
        x.law(4, 66);
        for (int i = 0; i < CALLS; i++) {
            switch (act) {
                case 0: x.fences(i % 3, 0); break;
                case 1: x.force(i % 3); break;
                case 2: x.ways(6, 12); break;
                case 3: x.law(i % 6, i % 70); x.reached(); break;
                case 4:
                    for (int n = 0; n < 6; n++) {
                        x.feed(0x2B312B312B312B31L, 8);
                    }
                    x.feed('1', 1);
                    x.text(1);
                    break;
                default: x.chance(19); x.image(); x.restore(); break;
            }
        }
    }
}
