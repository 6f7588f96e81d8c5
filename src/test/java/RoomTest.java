import java.lang.management.ManagementFactory;

/** An object and its 512 dearest calls stay far below the room that all calls of a run share. */
public final class RoomTest {
    private static final long MOST_BYTES = 4_000_000;

    public static void main(String[] args) {
        Due d = new Due();
        d.part("room");
        com.sun.management.ThreadMXBean threads = (com.sun.management.ThreadMXBean) ManagementFactory.getThreadMXBean();
        for (int way = 0; way < 6; way++) {
            oneRun(way);
            long before = threads.getCurrentThreadAllocatedBytes();
            oneRun(way);
            long bytes = threads.getCurrentThreadAllocatedBytes() - before;
            if (bytes > MOST_BYTES) {
                d.fail("way " + way + " takes " + bytes + " bytes");
            } else {
                d.due("way " + way, 1, 1);
            }
        }
        d.end("RoomTest");
    }

    private static void oneRun(int way) {
        LogSawyer x = new LogSawyer();
        x.log(6, 1, 8);
        x.rule(6, 30);
        for (int i = 0; i < 502; i++) {
            switch (way) {
                case 0: x.chance(i, 8, 1000, 0); break;
                case 1: x.drawn(i, 8); break;
                case 2: x.best(-1); break;
                case 3: x.feed(5, 'k', '0', '1', '1', ' '); x.text(); x.heal(0); break;
                case 4: x.image(); x.back(); x.serve(); x.opening(-1, 0); break;
                default: x.log(6, 1, 8); x.fault(i % 7, 1, 1, 1); x.saw(); x.sheet(0, 0, 40); x.order(1, 1, 1, 1); x.serve(); break;
            }
        }
    }
}
