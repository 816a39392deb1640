import java.math.BigInteger;
import java.nio.ByteBuffer;
import java.security.GeneralSecurityException;
import java.util.Arrays;
import java.util.List;
import java.util.TreeMap;
import javax.crypto.Cipher;
import javax.crypto.spec.SecretKeySpec;

/**
 * What the document says, with the Java library's cipher and big numbers; it keeps nothing
 * expanded and shares no code with the class.
 */
final class Model implements Face {
    private final List<TreeMap<Integer, long[]>> versions = List.of(new TreeMap<>(), new TreeMap<>());
    private final long[][] open = new long[2][256];
    private final long[][] mailboxes = new long[2][256];
    private final byte[][] keys = new byte[2][160];
    private final long[] answers = new long[2];
    private final int[] latest = new int[2];
    private final int[] deposits = new int[2];
    private final int[] queries = new int[2];
    private final Cipher[] ciphers = {cipherWith(0x10, 1), cipherWith(0x0F, 2)};

    Model() {
        versions.get(0).put(0, new long[256]);
        versions.get(1).put(0, new long[256]);
    }

    private static Cipher cipherWith(int factor, int start) {
        byte[] fixed = new byte[16];
        for (int k = 0; k < 16; k++) {
            fixed[k] = (byte) (factor * k + start);
        }
        try {
            Cipher cipher = Cipher.getInstance("AES/ECB/NoPadding");
            cipher.init(Cipher.ENCRYPT_MODE, new SecretKeySpec(fixed, "AES"));
            return cipher;
        } catch (GeneralSecurityException e) {
            throw new AssertionError(e);
        }
    }

    private byte[] enciphered(int key, byte[] block) {
        try {
            return ciphers[key].doFinal(block);
        } catch (GeneralSecurityException e) {
            throw new AssertionError(e);
        }
    }

    private static void argument(boolean right) {
        if (!right) {
            throw new IllegalArgumentException();
        }
    }

    private static void index(boolean right) {
        if (!right) {
            throw new IndexOutOfBoundsException();
        }
    }

    private static void state(boolean right) {
        if (!right) {
            throw new IllegalStateException();
        }
    }

    private static boolean two(int n) {
        return n == 0 || n == 1;
    }

    private static boolean place(int i) {
        return 0 <= i && i <= 255;
    }

    int newest(int server) {
        return versions.get(server).lastKey();
    }

    @Override
    public void put(int server, int i, long v) {
        argument(two(server) && place(i));
        open[server][i] = v;
    }

    private int changes(int server) {
        int changes = 0;
        for (int i = 0; i < 256; i++) {
            changes += open[server][i] != versions.get(server).lastEntry().getValue()[i] ? 1 : 0;
        }
        return changes;
    }

    @Override
    public int close(int server) {
        argument(two(server));
        latest[server] = changes(server);
        versions.get(server).put(newest(server) + 1, open[server].clone());
        if (versions.get(server).size() > 9) {
            versions.get(server).pollFirstEntry();
        }
        return newest(server);
    }

    /** The half still with its bit in it. */
    private byte[] doubled(int half, byte[] block) {
        byte[] out = enciphered(half, block);
        for (int i = 0; i < 16; i++) {
            out[i] ^= block[i];
        }
        return out;
    }

    private static byte[] block(long first, long second) {
        return ByteBuffer.allocate(16).putLong(first).putLong(second).array();
    }

    @Override
    public void makeKeys(int a, long first0, long second0, long first1, long second1, long message) {
        argument(place(a));
        byte[][] s = {block(first0, second0), block(first1, second1)};
        int[] t = {0, 1};
        ByteBuffer common = ByteBuffer.allocate(144);
        ByteBuffer.wrap(keys[0]).put(s[0]);
        ByteBuffer.wrap(keys[1]).put(s[1]);
        for (int level = 0; level < 8; level++) {
            int x = a >> (7 - level) & 1;
            byte[][] on = {doubled(x, s[0]), doubled(x, s[1])};
            byte[][] off = {doubled(1 - x, s[0]), doubled(1 - x, s[1])};
            int uOn = (on[0][15] ^ on[1][15] ^ 1) & 1;
            int uOff = (off[0][15] ^ off[1][15]) & 1;
            byte[] z = new byte[16];
            for (int i = 0; i < 16; i++) {
                z[i] = (byte) ((off[0][i] ^ off[1][i]) & (i == 15 ? 0xFE : 0xFF));
            }
            common.put(z).put((byte) (x == 0 ? uOn | uOff << 1 : uOff | uOn << 1));
            for (int k = 0; k < 2; k++) {
                int bit = on[k][15] & 1;
                on[k][15] &= (byte) 0xFE;
                for (int i = 0; i < 16; i++) {
                    on[k][i] ^= t[k] == 1 ? z[i] : 0;
                }
                t[k] = bit ^ (t[k] & uOn);
                s[k] = on[k];
            }
        }
        common.putLong(message ^ ByteBuffer.wrap(s[0]).getLong() ^ ByteBuffer.wrap(s[1]).getLong());
        ByteBuffer.wrap(keys[0]).position(16).put(common.array());
        ByteBuffer.wrap(keys[1]).position(16).put(common.array());
    }

    @Override
    public int keyByte(int key, int i) {
        index(two(key) && 0 <= i && i < 160);
        return keys[key][i] & 0xFF;
    }

    @Override
    public void setKeyByte(int key, int i, int b) {
        index(two(key) && 0 <= i && i < 160);
        keys[key][i] = (byte) b;
    }

    private boolean good(int key) {
        for (int at = 16; at < 152; at += 17) {
            if (keys[key][at + 15] % 2 != 0 || (keys[key][at + 16] & 0xFF) > 3) {
                return false;
            }
        }
        return true;
    }

    /** The share and the choice of a place. */
    private long[] expanded(int key, int place) {
        byte[] s = Arrays.copyOf(keys[key], 16);
        int t = key;
        for (int level = 0; level < 8; level++) {
            int x = place >> (7 - level) & 1;
            int at = 16 + 17 * level;
            s = doubled(x, s);
            int bit = s[15] & 1;
            s[15] &= (byte) 0xFE;
            for (int i = 0; i < 16; i++) {
                s[i] ^= t == 1 ? keys[key][at + i] : 0;
            }
            t = t == 1 ? bit ^ (keys[key][at + 16] >> x & 1) : bit;
        }
        long v = ByteBuffer.wrap(keys[key]).getLong(152);
        return new long[] {ByteBuffer.wrap(s).getLong() ^ (t == 1 ? v : 0), t};
    }

    @Override
    public boolean choice(int key, int i) {
        index(two(key) && place(i));
        state(good(key));
        return expanded(key, i)[1] == 1;
    }

    @Override
    public long share(int key, int i) {
        index(two(key) && place(i));
        state(good(key));
        return expanded(key, i)[0];
    }

    @Override
    public long query(int server, int version) {
        argument(two(server));
        state(versions.get(server).containsKey(version) && good(server));
        long answer = 0;
        for (int i = 0; i < 256; i++) {
            answer ^= expanded(server, i)[1] * versions.get(server).get(version)[i];
        }
        queries[server]++;
        answers[server] = answer;
        return answer;
    }

    @Override
    public long combine() {
        return answers[0] ^ answers[1];
    }

    @Override
    public void deposit(int server) {
        argument(two(server));
        state(good(server));
        for (int i = 0; i < 256; i++) {
            mailboxes[server][i] ^= expanded(server, i)[0];
        }
        deposits[server]++;
    }

    @Override
    public long mailbox(int server, int i) {
        argument((two(server) || server == 2) && place(i));
        return server == 2 ? mailboxes[0][i] ^ mailboxes[1][i] : mailboxes[server][i];
    }

    @Override
    public long record(int server, int version, int i) {
        argument(two(server) && place(i));
        state(versions.get(server).containsKey(version));
        return versions.get(server).get(version)[i];
    }

    @Override
    public long digest(int server, int version) {
        argument(two(server));
        state(versions.get(server).containsKey(version));
        BigInteger modulus = BigInteger.valueOf((1L << 61) - 1);
        BigInteger power = BigInteger.ONE;
        BigInteger sum = BigInteger.ZERO;
        for (long v : versions.get(server).get(version)) {
            for (long word : new long[] {v >>> 32, v & 0xFFFFFFFFL}) {
                sum = sum.add(power.multiply(BigInteger.valueOf(word))).mod(modulus);
                power = power.multiply(BigInteger.valueOf(1000003)).mod(modulus);
            }
        }
        return sum.longValueExact();
    }

    @Override
    public long cipher(int key, long first, long second, boolean upper) {
        argument(two(key));
        return ByteBuffer.wrap(enciphered(key, block(first, second))).getLong(upper ? 0 : 8);
    }

    @Override
    public int count(int server, int what) {
        if (!two(server) || what < 0 || what > 7) {
            return -1;
        }
        int chosen = good(server) ? 0 : -1;
        for (int i = 0; what == 7 && good(server) && i < 256; i++) {
            chosen += (int) expanded(server, i)[1];
        }
        int[] counts = {newest(server), versions.get(server).firstKey(), changes(server), latest[server],
                deposits[server], queries[server], good(server) ? 1 : 0, chosen};
        return counts[what];
    }
}
