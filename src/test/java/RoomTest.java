import java.lang.management.ManagementFactory;

/** The room that a run has: what an object takes, and that its calls make nothing. */
public final class RoomTest {
    private static final com.sun.management.ThreadMXBean THREADS =
            (com.sun.management.ThreadMXBean) ManagementFactory.getThreadMXBean();
    // A run of a million fields and elements is far inside the room of 7.3 million.
    private static final long MOST_BYTES_OF_ONE = 200_000;
    private static final long MOST_BYTES_OF_CALLS = 2_000;
    private static int sink;

    public static void main(String[] args) {
        Check check = new Check("RoomTest");
        HumTape warm = new HumTape();
        tell(warm);
        calls(warm);
        long before = made();
        HumTape x = new HumTape();
        long one = made() - before;
        tell(x);
        before = made();
        calls(x);
        long byCalls = made() - before;
        System.out.println("an object takes " + one + " bytes, its calls make " + byCalls + " bytes");
        check.due("an object is small", true, one < MOST_BYTES_OF_ONE);
        check.due("calls make nothing", true, byCalls < MOST_BYTES_OF_CALLS);
        check.finish();
    }

    private static long made() {
        return THREADS.getThreadAllocatedBytes(Thread.currentThread().getId());
    }

    private static void tell(HumTape x) {
        for (int i = 0; i < 4; i++) {
            x.drawn(500);
        }
        Check.machine(x, 0, "start 1;stop 2;hum 1;hiss 3;");
        for (int k = 0; k < 6; k++) {
            Check.story(x, k, "at 0;rec 300;".repeat(16) + "at 0;cut 2;tape 1;copy 0 300;");
        }
        Check.reader(x, 0, "whole when  1" + "+1".repeat(290) + "=knew;");
    }

    /** The dearest ones, and all others once. */
    private static void calls(HumTape x) {
        for (int k = 0; k < 6; k++) {
            sink += x.run(k) + x.alike(0, k, 0) + x.alike(1, k, 1);
            sink += x.slide(0, 0, 299, 0, 90, 9, 2) + x.need(0, 0, 299, 9) + x.speeds(0, 0, 299, 9, 9, 0);
            sink += x.reader(0, 0, 0, 299, 2) + x.says(0, 0, 0, true) + x.settings(0, 0, 39);
        }
        sink += x.state(1) + x.beats(1, 1) + x.drawn(1) + x.hum(1) + x.feed(1, 2, 3, 4, 5) + x.text(2, 1);
        sink += x.feed(1, 2, 3, 4, 5) + (x.end(2) ? 1 : 0) + x.fault(0) + x.machine(0, 0) + x.at(0, 0, 0);
        sink += (x.heard(0, 0, 0, 5) ? 1 : 0) + x.marks(0, 0, 299, 0) + x.which(0, 0, 299, 0, 0);
        sink += x.joins(0, 0, 299, 0, 0) + x.through(0, 0, 299) + (x.pedal(4, 4) ? 1 : 0) + x.could(0, 0, 299, 0);
        sink += x.look(4);
    }
}
