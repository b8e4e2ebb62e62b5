import java.lang.management.ManagementFactory;

/** All calls of a run share one room, so a call makes no object at all: what a thread is given tells. */
public final class RoomTest {
    private static final long OBJECT = 60_000;
    private static final long ROOM = 4_096;

    public static void main(String[] args) {
        com.sun.management.ThreadMXBean threads =
            (com.sun.management.ThreadMXBean) ManagementFactory.getThreadMXBean();
        calls(new RowGuard(), 0);
        long start = threads.getCurrentThreadAllocatedBytes();
        RowGuard x = new RowGuard();
        long made = threads.getCurrentThreadAllocatedBytes() - start;
        x.begin(6);
        start = threads.getCurrentThreadAllocatedBytes();
        int sum = 0;
        for (int i = 0; i < 30; i++) {
            sum += calls(x, i);
        }
        long used = threads.getCurrentThreadAllocatedBytes() - start;
        System.out.println("RoomTest: " + made + " bytes for an object, " + used + " for its calls (" + sum + ")");
        if (made > OBJECT || used > ROOM) {
            System.exit(1);
        }
    }

    private static int calls(RowGuard x, int i) {
        int sum = x.terms(2, i % 6) + x.ask(i % 6, 3) + x.pair(1, 2, 5) + x.tick(7) + x.swap(0, 5);
        sum += x.feed(0x61286263, 0x29000000, 0, 0, 0) + x.attack(5) + x.pattern(5) + x.done(0);
        sum += x.worst(4) + x.fewest() + x.sure(3) + x.coarse(9) + x.small(9) + x.choice(i, 40) + x.storm(i, 40, 1);
        return sum + x.image(0) + x.undo(2) + x.restore(0) + x.drop() + x.hammer(1, 99, 1) + x.breaks(1, 0);
    }
}
