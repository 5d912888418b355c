import java.lang.management.ManagementFactory;

/** All calls live in one room: the dearest of them make no object, so a run makes what its constructor makes. */
public final class RoomTest {
    private static final int CALLS = 512;

    public static void main(String[] args) {
        com.sun.management.ThreadMXBean threads = (com.sun.management.ThreadMXBean) ManagementFactory.getThreadMXBean();
        long id = Thread.currentThread().getId();
        HarbourMud x = new HarbourMud();
        dearest(x, 60);
        long before = threads.getThreadAllocatedBytes(id);
        HarbourMud y = new HarbourMud();
        long made = threads.getThreadAllocatedBytes(id);
        dearest(y, CALLS);
        long behind = threads.getThreadAllocatedBytes(id);
        Checks.due("bytes that a constructor makes are few", made - before < 16384 ? 1 : 0, 1);
        Checks.due("bytes that 512 calls make are next to none", behind - made < 16384 ? 1 : 0, 1);
        Checks.end("RoomTest");
    }

    private static void dearest(HarbourMud x, int calls) {
        for (int i = 0; i < 8; i++) {
            x.cell(90, 80);
            x.river(i, i & 1, 99);
        }
        for (int i = 0; i < 24; i++) {
            x.way(i % 8, (i + 1) % 8, 100 * (i & 1), 4);
        }
        x.dredger(0, 300);
        // a MOON comes by two calls
        for (int i = 41, round = 0; i < calls - 1; i++, round++) {
            switch (round % 8) {
                case 0: x.wall(200); break;
                case 1: x.leastCap(200); break;
                case 2: x.bestDrop(200); break;
                case 3: x.bestPlan(200); break;
                case 4: x.go(3); break;
                case 5: x.back(0, 1, 999, 255, 200); break;
                case 6: x.image(); break;
                default:
                    x.feed(3, 0x3b736dL);
                    x.coast();
                    i++;
            }
        }
    }
}
