import java.lang.management.ManagementFactory;

/** All calls of a run live in one room: calls make nothing but the exceptions they throw, and an object is small. */
public final class RoomTest {
    private static final com.sun.management.ThreadMXBean THREADS =
            (com.sun.management.ThreadMXBean) ManagementFactory.getThreadMXBean();

    public static void main(String[] args) {
        // the first object also loads its classes
        dearCalls(new LineageBench());
        long before = made();
        LineageBench second = new LineageBench();
        long ofOne = made() - before;
        System.out.println("bytes that one object makes: " + ofOne);
        Check.due("an object stays under 32 KB", ofOne < 32 * 1024, true);
        before = made();
        dearCalls(second);
        long ofCalls = made() - before;
        System.out.println("bytes that its dearest calls make: " + ofCalls);
        Check.due("calls make next to nothing", ofCalls < 4096, true);
        Check.close();
    }

    private static long made() {
        return THREADS.getThreadAllocatedBytes(Thread.currentThread().getId());
    }

    private static void dearCalls(LineageBench x) {
        for (int round = 0; round < 20; round++) {
            x.nearest(0);
            x.clock(1);
            x.fourPoints();
            x.build(4095, 2);
            x.perfect(4095, 3);
            x.strict(1, 4);
            x.most(14, 5);
            x.cut(0, 1365, 6);
            x.write(0);
            x.again();
            x.read(7);
            x.doublings(7, 0);
            x.losses(7, 0);
            x.orders(0);
            x.changes(0, 0);
            x.alike(0, 1);
            x.unlike(0, 1);
            x.look(0, 5);
            x.nearer(0, 0, 1, 2);
            x.least(0, 5);
        }
    }
}
