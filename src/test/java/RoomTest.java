import java.lang.management.ManagementFactory;

/** No call but the constructor makes an object: a run's calls all live in one room. */
public final class RoomTest {
    /** What a call may make: less than the smallest object has. */
    private static final long MOST_BYTES_A_CALL = 8;
    private static final int CALLS = 20000;

    public static void main(String[] args) {
        DecimalBits x = new DecimalBits();
        fill(x);
        work(x, CALLS);
        long before = bytes();
        work(x, CALLS);
        long made = bytes() - before;
        System.out.println("bytes made by " + CALLS + " rounds of calls: " + made);
        if (made > CALLS * MOST_BYTES_A_CALL) {
            System.exit(1);
        }
    }

    private static long bytes() {
        com.sun.management.ThreadMXBean threads =
            (com.sun.management.ThreadMXBean) ManagementFactory.getThreadMXBean();
        return threads.getCurrentThreadAllocatedBytes();
    }

    private static void fill(DecimalBits x) {
        x.load(0, 2, 0x5f000000, 0x12345678, 0x9abcdef0, 0x12345678);
        x.load(1, 2, 0x00000000, 0x02345678, 0x9abcdef0, 0x12345679);
        x.load(2, 2, 0x30400000, 0x12345678, 0x9abcdef0, 0x12345677);
    }

    private static void work(DecimalBits x, int calls) {
        for (int k = 0; k < calls; k++) {
            x.two(k % 11, 3, k % 3, (k + 1) % 3);
            x.fused(4, k % 3, 2, (k + 1) % 3);
            x.one(k % 12, 5, k % 3);
            x.scale(6, k % 3, k);
            x.convert(7, k % 3, k % 3);
            x.number(7, k % 3, k, k);
            x.whole(2, k % 6, true);
            x.compare(k % 3, 2, true);
            x.ordered(k % 3, 2);
            x.type('0' + k % 10);
            x.type('E');
            x.type('5');
            x.read(7, k % 3);
            x.write(k % 9);
            x.output(0);
            x.bits(k % 9, k % 4);
        }
    }
}
