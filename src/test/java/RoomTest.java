import java.lang.management.ManagementFactory;

/** What an object and its 512 calls make stays small: calls use again what was made once. */
public final class RoomTest {
    // Elements take eight bytes at most: this is some 40,000 of them, of 7.3 million.
    private static final long MOST_BYTES = 320000;

    private static int put(MarkField x, int a, int b) {
        return x.feed(a, b, 0x20202020, 0x20202020, 0x20202020);
    }

    private static long allocated() {
        return ((com.sun.management.ThreadMXBean) ManagementFactory.getThreadMXBean())
                .getCurrentThreadAllocatedBytes();
    }

    /** The dearest calls in turn, acts among them: 512 calls in all. */
    private static int run() {
        MarkField x = new MarkField();
        int sum = 0;
        for (int k = 0; k < 12; k++) {
            put(x, 0x78797a78, 0x6162636b);
            sum += x.file(8, 1, k);
        }
        for (int k = 0; k < 61; k++) {
            put(x, 0x78797a78, 0x6162636b);
            sum += x.would(8, 1, k, 3);
            put(x, 0x78797a78, 0x6162636b);
            sum += x.free(8, k);
            sum += x.letterFor(k % 12, 100);
            sum += x.use(k % 12, k % 2, k, k + 5);
            sum += x.firstDay(k % 12, 0);
            sum += x.undo();
        }
        return sum;
    }

    public static void main(String[] args) {
        int before = run();
        long start = allocated();
        int sum = run();
        long bytes = allocated() - start;
        boolean fine = sum == before && bytes <= MOST_BYTES;
        System.out.println("a run makes " + bytes + " bytes" + (fine ? "" : ": too many, or answers differ"));
        System.exit(fine ? 0 : 1);
    }
}
