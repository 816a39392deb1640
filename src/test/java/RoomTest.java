import com.sun.management.ThreadMXBean;
import java.lang.management.ManagementFactory;

/** All calls of a run live in one room, so calls that are not refused make no rows anew. */
public final class RoomTest {
    private static final int CALLS = 512;
    // A row of 256 numbers made anew by each call would take a megabyte.
    private static final long MOST_BYTES = 200_000;

    private interface Call {
        void run(BlindShelf x, int i);
    }

    private static int wrong = 0;

    public static void main(String[] args) {
        measure("put", (x, i) -> x.put(i & 1, i & 255, i));
        measure("close", (x, i) -> x.close(i & 1));
        measure("makeKeys", (x, i) -> x.makeKeys(i & 255, i, i, i, i, i));
        measure("setKeyByte and choice", (x, i) -> {
            x.setKeyByte(0, 3, i);
            x.choice(0, i & 255);
        });
        measure("setKeyByte and query", (x, i) -> {
            x.setKeyByte(1, 3, i);
            x.query(1, 0);
        });
        measure("setKeyByte and deposit", (x, i) -> {
            x.setKeyByte(0, 3, i);
            x.deposit(0);
        });
        measure("share", (x, i) -> x.share(i & 1, i & 255));
        measure("record", (x, i) -> x.record(0, 0, i & 255));
        measure("digest", (x, i) -> x.digest(0, 0));
        measure("cipher", (x, i) -> x.cipher(i & 1, i, i, true));
        measure("count", (x, i) -> x.count(0, i & 7));
        System.out.println(wrong == 0 ? "all calls are small" : wrong + " calls are too large");
        if (wrong != 0) {
            System.exit(1);
        }
    }

    private static void measure(String name, Call call) {
        ThreadMXBean threads = (ThreadMXBean) ManagementFactory.getThreadMXBean();
        long thread = Thread.currentThread().getId();
        BlindShelf x = new BlindShelf();
        for (int i = 0; i < 8; i++) {
            call.run(new BlindShelf(), i);
        }
        long before = threads.getThreadAllocatedBytes(thread);
        for (int i = 0; i < CALLS; i++) {
            call.run(x, i);
        }
        long bytes = threads.getThreadAllocatedBytes(thread) - before;
        if (bytes > MOST_BYTES) {
            wrong++;
            System.out.println(name + ": " + bytes + " bytes made by " + CALLS + " calls");
        }
    }
}
