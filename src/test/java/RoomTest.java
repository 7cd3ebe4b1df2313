import java.lang.management.ManagementFactory;

/** A run of the dearest calls makes next to nothing: the rows made with the object are used again. */
public final class RoomTest {
    private static final int CALLS = 512;
    private static final long MOST_BYTES_OF_ALL_CALLS = 200_000;
    private static final long MOST_BYTES_OF_AN_OBJECT = 100_000;

    private static final com.sun.management.ThreadMXBean COUNTER =
        (com.sun.management.ThreadMXBean) ManagementFactory.getThreadMXBean();

    public static void main(String[] args) {
        run(new LayeredBits());
        long before = made();
        LayeredBits bits = new LayeredBits();
        long object = made() - before;
        before = made();
        run(bits);
        long calls = made() - before;
        Check.due("an object is small (" + object + " bytes)", object <= MOST_BYTES_OF_AN_OBJECT ? 1 : 0, 1);
        Check.due("a run is small (" + calls + " bytes)", calls <= MOST_BYTES_OF_ALL_CALLS ? 1 : 0, 1);
        Check.finish();
    }

    private static long made() {
        return COUNTER.getThreadAllocatedBytes(Thread.currentThread().getId());
    }

    private static void run(LayeredBits bits) {
        bits.clear(16, 16);
        for (int call = 1; call < CALLS; call++) {
            switch (call % 4) {
                case 0 -> bits.write(3);
                case 1 -> bits.read(2);
                case 2 -> bits.set(call % 16, call / 16 % 16, 1);
                default -> bits.row(call % 16, call * 7919);
            }
        }
    }
}
