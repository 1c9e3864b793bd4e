import java.lang.management.ManagementFactory;

/** All calls of a run live in one room: only the constructor makes objects, and no call does. */
public final class RoomTest {
    private static final int CALLS = 512;
    /** The JVM itself may put some bytes on the thread's account; one object a call would be more than this. */
    private static final long MOST_BYTES_OF_CALLS = 8L * CALLS;
    private static final long MOST_BYTES_OF_AN_OBJECT = 20_000;

    private static final Check check = new Check();

    public static void main(String[] args) {
        com.sun.management.ThreadMXBean threads =
                (com.sun.management.ThreadMXBean) ManagementFactory.getThreadMXBean();
        makeCalls(new LoopMemo());
        threads.getCurrentThreadAllocatedBytes();
        long start = threads.getCurrentThreadAllocatedBytes();
        LoopMemo x = new LoopMemo();
        long made = threads.getCurrentThreadAllocatedBytes();
        makeCalls(x);
        long end = threads.getCurrentThreadAllocatedBytes();
        check.due("bytes of an object, above " + MOST_BYTES_OF_AN_OBJECT,
                Math.max(0, made - start - MOST_BYTES_OF_AN_OBJECT), 0);
        check.due("bytes of " + CALLS + " calls, above " + MOST_BYTES_OF_CALLS,
                Math.max(0, end - made - MOST_BYTES_OF_CALLS), 0);
        check.end();
    }

    private static void makeCalls(LoopMemo x) {
        for (int i = 0; i < CALLS; i++) {
            switch (i % 18) {
                case 0: x.add(true, i % 10, i % 100); break;
                case 1: x.add(false, i % 10, i % 100); break;
                case 2: x.step(20); break;
                case 3: x.append('r'); break;
                case 4: x.fault(1); break;
                case 5: x.carryOut(); break;
                case 6: x.again(); break;
                case 7: x.leastBound(); break;
                case 8: x.ifOrdered(1); break;
                case 9: x.ifBound(9, 0); break;
                case 10: x.save(); break;
                case 11: x.set(LoopMemo.BOUND, i % 61); break;
                case 12: x.change(0, 1, 1); break;
                case 13: x.undo(); break;
                case 14: x.restore(); break;
                case 15: x.total(i % 2); break;
                case 16: x.remembered(i % 10, 5); break;
                default: x.leastBound(); break;
            }
        }
    }
}
