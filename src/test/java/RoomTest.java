import com.sun.management.ThreadMXBean;
import java.lang.management.ManagementFactory;

/** All calls of a run live in one room, so calls that are not refused make no rows anew. */
public final class RoomTest {
    // A row of 256 numbers made anew by every second call would take half a megabyte.
    private static final long MOST_BYTES = 200_000;

    private interface Call {
        void on(Desk x, int n);
    }

    public static void main(String[] args) {
        small("put", (x, n) -> x.put(n & 1, n & 255, n));
        small("close", (x, n) -> x.close(n & 1));
        small("makeKeys", (x, n) -> x.makeKeys(n & 255, n, n, n, n, n));
        small("keyByte", (x, n) -> x.keyByte(n & 1, n & 127));
        small("setKeyByte and choice", (x, n) -> {
            x.setKeyByte(0, 3, n);
            x.choice(0, n & 255);
        });
        small("setKeyByte and query", (x, n) -> {
            x.setKeyByte(1, 3, n);
            x.query(1, 0);
        });
        small("setKeyByte and deposit", (x, n) -> {
            x.setKeyByte(0, 3, n);
            x.deposit(0);
        });
        small("setKeyByte and count", (x, n) -> {
            x.setKeyByte(0, 3, n);
            x.count(0, 7);
        });
        small("share", (x, n) -> x.share(n & 1, n & 255));
        small("combine", (x, n) -> x.combine());
        small("mailbox", (x, n) -> x.mailbox(2, n & 255));
        small("record", (x, n) -> x.record(0, 0, n & 255));
        small("digest", (x, n) -> x.digest(0, 0));
        small("cipher", (x, n) -> x.cipher(n & 1, n, n, true));
        small("count", (x, n) -> x.count(0, n & 7));
        Checks.end();
    }

    private static void small(String name, Call call) {
        Checks.test("512 calls of " + name, () -> {
            // What is made once, when a call is run for the first time, is not the call's.
            call.on(new Desk(), 0);
            Desk x = new Desk();
            long before = bytesMade();
            for (int n = 0; x.callsLeft() > 1; n++) {
                call.on(x, n);
            }
            long bytes = bytesMade() - before;
            Checks.due("at most " + MOST_BYTES + " bytes, " + bytes + " made", bytes <= MOST_BYTES, true);
        });
    }

    private static long bytesMade() {
        ThreadMXBean threads = (ThreadMXBean) ManagementFactory.getThreadMXBean();
        return threads.getThreadAllocatedBytes(Thread.currentThread().getId());
    }
}
