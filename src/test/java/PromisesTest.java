import java.math.BigInteger;
import javax.crypto.Cipher;
import javax.crypto.spec.SecretKeySpec;

/** One method a promise: ordinary inputs, the edges that the document names, and wrong inputs. */
public final class PromisesTest {
    private interface Call {
        void run();
    }

    private static final int[] WRONG_SERVERS = {-1, 2, 3, Integer.MIN_VALUE, Integer.MAX_VALUE};
    private static final int[] WRONG_PLACES = {-1, 256, Integer.MIN_VALUE, Integer.MAX_VALUE};
    private static final int[] WRONG_BYTES = {-1, 160, Integer.MIN_VALUE, Integer.MAX_VALUE};
    private static final Class<?> ARGUMENT = IllegalArgumentException.class;
    private static final Class<?> INDEX = IndexOutOfBoundsException.class;
    private static final Class<?> STATE = IllegalStateException.class;

    private static int wrong = 0;

    private static void due(int promise, String what, Object got, Object want) {
        if (!got.equals(want)) {
            wrong++;
            System.out.println("promise " + promise + ": " + what + ": " + got + ", due is " + want);
        }
    }

    private static void refused(int promise, String what, Class<?> want, Call call) {
        Class<?> got = null;
        try {
            call.run();
        } catch (RuntimeException e) {
            got = e.getClass();
        }
        due(promise, what + " throws", String.valueOf(got), String.valueOf(want));
    }

    public static void main(String[] args) throws Exception {
        newObject();
        put();
        close();
        makeKeys();
        keyByte();
        setKeyByte();
        choice();
        share();
        query();
        combine();
        deposit();
        mailbox();
        record();
        digest();
        cipher();
        count();
        System.out.println(wrong == 0 ? "all promises hold" : wrong + " answers are not as due");
        if (wrong != 0) {
            System.exit(1);
        }
    }

    private static void newObject() {
        BlindShelf x = new BlindShelf();
        for (int server = 0; server < 2; server++) {
            for (int i = 0; i < 256; i++) {
                due(1, "record", x.record(server, 0, i), 0L);
                due(1, "mailbox", x.mailbox(server, i), 0L);
            }
            for (int i = 0; i < 160; i++) {
                due(1, "keyByte", x.keyByte(server, i), 0);
            }
            int[] counts = {0, 0, 0, 0, 0, 0, 1};
            for (int what = 0; what < counts.length; what++) {
                due(1, "count " + what, x.count(server, what), counts[what]);
            }
        }
        due(1, "combine", x.combine(), 0L);
        due(1, "NONE", BlindShelf.NONE, -1);
        BlindShelf other = new BlindShelf();
        other.put(0, 0, 5);
        other.close(0);
        other.setKeyByte(0, 0, 5);
        due(1, "count of an object by another's calls", x.count(0, 0), 0);
        due(1, "key of an object by another's calls", x.keyByte(0, 0), 0);
    }

    private static void put() {
        BlindShelf x = new BlindShelf();
        x.put(0, 0, 1);
        x.put(0, 255, -1);
        x.put(0, 7, Long.MIN_VALUE);
        x.put(0, 7, Long.MAX_VALUE);
        due(2, "record before the closing", x.record(0, 0, 255), 0L);
        x.close(0);
        due(2, "record 0", x.record(0, 1, 0), 1L);
        due(2, "record 255", x.record(0, 1, 255), -1L);
        due(2, "record put twice", x.record(0, 1, 7), Long.MAX_VALUE);
        due(2, "record not put", x.record(0, 1, 8), 0L);
        due(2, "the closed version's record before", x.record(0, 0, 0), 0L);
        due(2, "the other server's batch", x.count(1, 2), 0);
        x.put(0, 0, 2);
        due(2, "record of a closed version", x.record(0, 1, 0), 1L);
        for (int server : WRONG_SERVERS) {
            refused(2, "put on server " + server, ARGUMENT, () -> x.put(server, 0, 1));
        }
        for (int i : WRONG_PLACES) {
            refused(2, "put in " + i, ARGUMENT, () -> x.put(0, i, 1));
        }
        due(2, "changes after refusals", x.count(0, 2), 1);
    }

    private static void close() {
        BlindShelf x = new BlindShelf();
        for (int version = 1; version <= 30; version++) {
            x.put(0, version, 100 + version);
            due(3, "close", x.close(0), version);
            due(3, "batch after it", x.count(0, 2), 0);
        }
        due(3, "close of the other server", x.close(1), 1);
        for (int version = 22; version <= 30; version++) {
            for (int i = 1; i <= 30; i++) {
                due(3, "record", x.record(0, version, i), i <= version ? 100L + i : 0L);
            }
        }
        for (int server : WRONG_SERVERS) {
            refused(3, "close of server " + server, ARGUMENT, () -> x.close(server));
        }
        due(3, "newest after refusals", x.count(0, 0), 30);
    }

    private static void makeKeys() {
        int[] places = {0, 1, 127, 128, 170, 254, 255};
        BlindShelf x = new BlindShelf();
        for (int a : places) {
            long message = 0x8000000000000001L ^ (long) a << 30;
            x.makeKeys(a, 11L * a, -5L, -3L - a, 17L, message);
            for (int i = 0; i < 256; i++) {
                due(4, "choices differ at " + i, x.choice(0, i) != x.choice(1, i), i == a);
                due(4, "shares' xor at " + i, x.share(0, i) ^ x.share(1, i), i == a ? message : 0L);
            }
            due(4, "key 0 is good", x.count(0, 6), 1);
            due(4, "key 1 is good", x.count(1, 6), 1);
            due(4, "key 0's first root half", half(x, 0, 0), 11L * a);
            due(4, "key 0's second root half", half(x, 0, 8), -5L);
            due(4, "key 1's first root half", half(x, 1, 0), -3L - a);
            due(4, "key 1's second root half", half(x, 1, 8), 17L);
            for (int i = 16; i < 160; i++) {
                due(4, "byte " + i + " of both", x.keyByte(0, i), x.keyByte(1, i));
            }
        }
        mendedByMaking(x);
        refusedMaking(x);
    }

    private static void mendedByMaking(BlindShelf x) {
        for (int i = 0; i < 160; i++) {
            x.setKeyByte(0, i, 255);
        }
        x.makeKeys(9, 0, 0, 0, 0, 0);
        due(4, "key 0 is good again", x.count(0, 6), 1);
        due(4, "equal roots: V is the message", half(x, 0, 152), 0L);
        due(4, "equal roots: Z is 0", half(x, 1, 16) | half(x, 1, 24), 0L);
        due(4, "equal roots: U x alone is 1", x.keyByte(1, 32), 1);
        due(4, "equal roots: U x alone is 1, below", x.keyByte(1, 16 + 17 * 7 + 16), 2);
    }

    private static void refusedMaking(BlindShelf x) {
        x.makeKeys(200, 1, 2, 3, 4, 5);
        int[] before = new int[320];
        for (int i = 0; i < 320; i++) {
            before[i] = x.keyByte(i / 160, i % 160);
        }
        for (int a : WRONG_PLACES) {
            refused(4, "makeKeys for " + a, ARGUMENT, () -> x.makeKeys(a, 9, 9, 9, 9, 9));
        }
        for (int i = 0; i < 320; i++) {
            due(4, "key byte after refusals", x.keyByte(i / 160, i % 160), before[i]);
        }
    }

    private static long half(BlindShelf x, int key, int at) {
        long half = 0;
        for (int i = 0; i < 8; i++) {
            half = half << 8 | x.keyByte(key, at + i);
        }
        return half;
    }

    private static void keyByte() {
        BlindShelf x = new BlindShelf();
        x.makeKeys(3, 0x0102030405060708L, 0x090A0B0C0D0E0F10L, -1L, 0xFEL, 0);
        for (int i = 0; i < 16; i++) {
            due(5, "root byte of key 0", x.keyByte(0, i), i + 1);
        }
        due(5, "byte of key 1", x.keyByte(1, 0), 255);
        due(5, "byte of key 1", x.keyByte(1, 8), 0);
        due(5, "byte of key 1", x.keyByte(1, 15), 254);
        for (int key : WRONG_SERVERS) {
            refused(5, "keyByte of key " + key, INDEX, () -> x.keyByte(key, 0));
        }
        for (int i : WRONG_BYTES) {
            refused(5, "keyByte " + i, INDEX, () -> x.keyByte(1, i));
        }
    }

    private static void setKeyByte() {
        BlindShelf x = new BlindShelf();
        for (int i = 0; i < 160; i++) {
            x.setKeyByte(1, i, 1000 + i);
        }
        for (int i = 0; i < 160; i++) {
            due(6, "keyByte " + i, x.keyByte(1, i), (1000 + i) % 256);
            due(6, "byte of the other key", x.keyByte(0, i), 0);
        }
        x.setKeyByte(0, 0, -1);
        due(6, "lowest bits of -1", x.keyByte(0, 0), 255);
        x.setKeyByte(0, 0, Integer.MIN_VALUE);
        due(6, "lowest bits of -2^31", x.keyByte(0, 0), 0);
        for (int key : WRONG_SERVERS) {
            refused(6, "setKeyByte of key " + key, INDEX, () -> x.setKeyByte(key, 0, 1));
        }
        for (int i : WRONG_BYTES) {
            refused(6, "setKeyByte " + i, INDEX, () -> x.setKeyByte(1, i, 1));
        }
        changesAreSeen();
    }

    /** What was expanded before a byte was set must not be answered after it. */
    private static void changesAreSeen() {
        for (int i = 0; i < 160; i++) {
            BlindShelf x = new BlindShelf();
            x.makeKeys(77, 5, 6, 7, 8, 9);
            boolean flags = i >= 16 && i < 152 && (i - 16) % 17 == 16;
            // The second half of the last level's Z goes into blocks whose first halves alone count.
            boolean counts = i < 143 || i > 150;
            int other = flags ? 3 : 2;
            long old = shares(x);
            x.setKeyByte(1, i, x.keyByte(1, i) ^ other);
            due(6, "shares are others by byte " + i, shares(x) != old, counts);
            x.setKeyByte(1, i, x.keyByte(1, i) ^ other);
            due(6, "shares are as before by byte " + i, shares(x), old);
        }
    }

    private static long shares(BlindShelf x) {
        long sum = 0;
        for (int i = 0; i < 256; i++) {
            sum = sum * 31 + x.share(1, i) + (x.choice(1, i) ? 1 : 0);
        }
        return sum;
    }

    private static void choice() throws Exception {
        BlindShelf x = new BlindShelf();
        x.makeKeys(100, -9, 8, 7, -6, 5);
        for (int i = 0; i < 256; i++) {
            due(7, "choice 0, " + i, x.choice(0, i), expanded(x, 0, i)[2] == 1);
            due(7, "choice 1, " + i, x.choice(1, i), expanded(x, 1, i)[2] == 1);
        }
        refusedExpansion(7, x, () -> x.choice(0, 0), () -> x.choice(1, 255));
        for (int wrongKey : WRONG_SERVERS) {
            refused(7, "choice by key " + wrongKey, INDEX, () -> x.choice(wrongKey, 0));
        }
        for (int i : WRONG_PLACES) {
            refused(7, "choice of place " + i, INDEX, () -> x.choice(0, i));
            x.setKeyByte(0, 32, 4);
            refused(7, "choice of place " + i + ", key not good", INDEX, () -> x.choice(0, i));
            x.setKeyByte(0, 32, 0);
        }
    }

    private static void share() throws Exception {
        BlindShelf x = new BlindShelf();
        x.makeKeys(31, 1L << 63, 1, 2, 1L << 62, -77);
        for (int i = 0; i < 256; i++) {
            due(8, "share 0, " + i, x.share(0, i), expanded(x, 0, i)[0]);
            due(8, "share 1, " + i, x.share(1, i), expanded(x, 1, i)[0]);
        }
        refusedExpansion(8, x, () -> x.share(0, 0), () -> x.share(1, 255));
        for (int wrongKey : WRONG_SERVERS) {
            refused(8, "share by key " + wrongKey, INDEX, () -> x.share(wrongKey, 0));
        }
        for (int i : WRONG_PLACES) {
            refused(8, "share of place " + i, INDEX, () -> x.share(1, i));
            x.setKeyByte(1, 31, 1);
            refused(8, "share of place " + i + ", key not good", INDEX, () -> x.share(1, i));
            x.setKeyByte(1, 31, 0);
        }
    }

    /** Each of the bits that make a key not good, and none of the others, is refused. */
    private static void refusedExpansion(int promise, BlindShelf x, Call byKey0, Call byKey1) {
        for (int i = 0; i < 160; i++) {
            int at = i >= 16 && i < 152 ? (i - 16) % 17 : 0;
            for (int bit = 0; bit < 8; bit++) {
                boolean bad = at == 16 ? bit >= 2 : at == 15 && bit == 0;
                int old = x.keyByte(0, i);
                x.setKeyByte(0, i, old ^ 1 << bit);
                refused(promise, "bit " + bit + " of byte " + i, bad ? STATE : null, byKey0);
                due(promise, "good", x.count(0, 6), bad ? 0 : 1);
                refused(promise, "the other key", null, byKey1);
                x.setKeyByte(0, i, old);
            }
        }
    }

    private static byte[] fixedKey(int key) {
        byte[] bytes = new byte[16];
        for (int k = 0; k < 16; k++) {
            bytes[k] = (byte) (key == 0 ? 0x10 * k + 1 : 0x0F * k + 2);
        }
        return bytes;
    }

    private static long number(byte[] bytes, int at) {
        return new BigInteger(1, java.util.Arrays.copyOfRange(bytes, at, at + 8)).longValue();
    }

    private static byte[] aes(int key, long first, long second) throws Exception {
        Cipher aes = Cipher.getInstance("AES/ECB/NoPadding");
        aes.init(Cipher.ENCRYPT_MODE, new SecretKeySpec(fixedKey(key), "AES"));
        return aes.doFinal(java.nio.ByteBuffer.allocate(16).putLong(first).putLong(second).array());
    }

    /** By the document's words and the Java library's cipher: share, second half, choice. */
    private static long[] expanded(BlindShelf x, int key, int place) throws Exception {
        long first = half(x, key, 0);
        long second = half(x, key, 8);
        long t = key;
        for (int level = 0; level < 8; level++) {
            int turn = place >> (7 - level) & 1;
            byte[] ciphered = aes(turn, first, second);
            first ^= number(ciphered, 0);
            second ^= number(ciphered, 8);
            long bit = second & 1;
            second &= -2;
            if (t == 1) {
                first ^= half(x, key, 16 + 17 * level);
                second ^= half(x, key, 24 + 17 * level);
                bit ^= x.keyByte(key, 32 + 17 * level) >> turn & 1;
            }
            t = bit;
        }
        return new long[] {t == 1 ? first ^ half(x, key, 152) : first, second, t};
    }

    private static void query() {
        BlindShelf x = new BlindShelf();
        for (int version = 1; version <= 12; version++) {
            for (int i = 0; i < 8; i++) {
                x.put(0, 31 * i + version, 1L << (5 * i + version));
            }
            x.close(0);
        }
        x.makeKeys(66, 21, 22, 23, 24, 0);
        for (int version = 4; version <= 12; version++) {
            long want = 0;
            for (int i = 0; i < 256; i++) {
                want ^= x.choice(0, i) ? x.record(0, version, i) : 0;
            }
            due(9, "query of version " + version, x.query(0, version), want);
            due(9, "kept answer", x.combine(), want);
        }
        long kept = x.combine();
        for (int version : new int[] {3, 13, -1, 0, Integer.MIN_VALUE, Integer.MAX_VALUE}) {
            refused(9, "query of version " + version, STATE, () -> x.query(0, version));
        }
        refused(9, "query of the other server's version", STATE, () -> x.query(1, 12));
        x.setKeyByte(0, 32, 128);
        refused(9, "query by a key that is not good", STATE, () -> x.query(0, 12));
        for (int server : WRONG_SERVERS) {
            refused(9, "query of server " + server, ARGUMENT, () -> x.query(server, 99));
        }
        due(9, "answer after refusals", x.combine(), kept);
        due(9, "queries after refusals", x.count(0, 5), 9);
        due(9, "query of the good key's server", x.query(1, 0), 0L);
    }

    private static void combine() {
        BlindShelf x = new BlindShelf();
        for (int i = 0; i < 128; i++) {
            x.put(0, 2 * i, ~(long) i * i * i);
            x.put(1, 2 * i, ~(long) i * i * i);
        }
        x.close(0);
        x.close(1);
        due(10, "combine before queries", x.combine(), 0L);
        for (int i = 0; i < 256; i += 17) {
            x.makeKeys(i, i, -i, 3 * i, 1 - i, 0);
            x.query(0, 1);
            x.query(1, 1);
            due(10, "combine for " + i, x.combine(), x.record(0, 1, i));
        }
        long answer0 = x.query(0, 1);
        due(10, "combine of an answer and 0", x.combine() ^ x.query(1, 0), answer0 ^ x.query(1, 1));
        x.query(1, 0);
        due(10, "combine with an empty version's answer", x.combine(), answer0);
    }

    private static void deposit() {
        BlindShelf x = new BlindShelf();
        x.makeKeys(12, 1, 2, 3, 4, 0xABCDL);
        x.deposit(0);
        for (int i = 0; i < 256; i++) {
            due(11, "mailbox 0, " + i, x.mailbox(0, i), x.share(0, i));
            due(11, "mailbox 1, " + i, x.mailbox(1, i), 0L);
        }
        x.deposit(1);
        x.makeKeys(12, 5, 6, 7, 8, 0x1111L);
        x.deposit(0);
        x.deposit(1);
        x.makeKeys(13, 9, 6, 7, 8, -1L);
        x.deposit(0);
        x.deposit(1);
        for (int i = 0; i < 256; i++) {
            long want = i == 12 ? 0xABCDL ^ 0x1111L : i == 13 ? -1L : 0L;
            due(11, "both mailboxes, " + i, x.mailbox(2, i), want);
        }
        long before = x.mailbox(0, 12);
        x.setKeyByte(0, 31, 1);
        refused(11, "deposit by a key that is not good", STATE, () -> x.deposit(0));
        for (int server : WRONG_SERVERS) {
            refused(11, "deposit at server " + server, ARGUMENT, () -> x.deposit(server));
        }
        due(11, "mailbox after refusals", x.mailbox(0, 12), before);
        due(11, "deposits after refusals", x.count(0, 4), 3);
    }

    private static void mailbox() {
        BlindShelf x = new BlindShelf();
        x.makeKeys(255, 1, 2, 3, 4, 5);
        x.deposit(0);
        x.deposit(1);
        for (int i = 0; i < 256; i++) {
            due(12, "mailbox 0", x.mailbox(0, i), x.share(0, i));
            due(12, "mailbox 1", x.mailbox(1, i), x.share(1, i));
            due(12, "mailbox 2", x.mailbox(2, i), x.share(0, i) ^ x.share(1, i));
        }
        for (int server : new int[] {-1, 3, Integer.MIN_VALUE, Integer.MAX_VALUE}) {
            refused(12, "mailbox " + server, ARGUMENT, () -> x.mailbox(server, 0));
        }
        for (int server = 0; server <= 2; server++) {
            int known = server;
            for (int i : WRONG_PLACES) {
                refused(12, "mailbox place " + i, ARGUMENT, () -> x.mailbox(known, i));
            }
        }
    }

    private static void record() {
        BlindShelf x = new BlindShelf();
        due(13, "record of version 0", x.record(1, 0, 255), 0L);
        for (int version = 1; version <= 20; version++) {
            x.put(1, 40, -version);
            x.put(1, 41, 50);
            x.close(1);
            int oldest = Math.max(0, version - 8);
            due(13, "newest", x.record(1, version, 40), (long) -version);
            due(13, "oldest", x.record(1, oldest, 40), (long) -oldest);
            int now = version;
            refused(13, "version before the oldest", STATE, () -> x.record(1, oldest - 1, 40));
            refused(13, "version after the newest", STATE, () -> x.record(1, now + 1, 40));
        }
        due(13, "record that stayed", x.record(1, 15, 41), 50L);
        due(13, "the other server's record", x.record(0, 0, 40), 0L);
        refused(13, "the other server's version", STATE, () -> x.record(0, 15, 40));
        for (int version : new int[] {Integer.MIN_VALUE, -1, 11, 21, Integer.MAX_VALUE}) {
            refused(13, "version " + version, STATE, () -> x.record(1, version, 0));
        }
        for (int server : WRONG_SERVERS) {
            refused(13, "server " + server, ARGUMENT, () -> x.record(server, 99, 0));
        }
        for (int i : WRONG_PLACES) {
            refused(13, "record " + i, ARGUMENT, () -> x.record(1, 20, i));
            refused(13, "record " + i + ", version not held", ARGUMENT, () -> x.record(1, 99, i));
        }
    }

    private static void digest() {
        BlindShelf x = new BlindShelf();
        due(14, "digest of zeros", x.digest(0, 0), 0L);
        x.put(0, 0, 1L << 32);
        due(14, "digest with one word 0", digestOfClosed(x), 1L);
        x.put(0, 0, 1L);
        due(14, "digest with one word 1", digestOfClosed(x), 1000003L);
        x.put(0, 0, 0xFFFFFFFFL);
        due(14, "digest with a word of 32 ones", digestOfClosed(x), 0xFFFFFFFFL * 1000003L);
        for (int fill = 0; fill < 4; fill++) {
            long[] values = {-1L, Long.MIN_VALUE, 0x0123456789ABCDEFL, 0x80000000L};
            for (int i = 0; i < 256; i++) {
                x.put(0, i, values[fill] * (fill == 2 ? i + 1 : 1));
            }
            due(14, "digest", digestOfClosed(x), digestByWords(x, x.count(0, 0)));
        }
        due(14, "digest of an older version", x.digest(0, 1), 1L);
        digestOfTheModulus();
        for (int server : WRONG_SERVERS) {
            refused(14, "digest of server " + server, ARGUMENT, () -> x.digest(server, 99));
        }
        for (int version : new int[] {-1, 8, Integer.MIN_VALUE, Integer.MAX_VALUE}) {
            refused(14, "digest of version " + version, STATE, () -> x.digest(0, version));
        }
        x.close(0);
        x.close(0);
        refused(14, "digest of a version held no more", STATE, () -> x.digest(0, 0));
    }

    /** Three words whose sum is 2^61 - 1 itself: 0, not the modulus. */
    private static void digestOfTheModulus() {
        long modulus = (1L << 61) - 1;
        long square = 1000003L * 1000003L;
        long word0 = modulus % square % 1000003L;
        long word1 = modulus % square / 1000003L;
        long word2 = modulus / square;
        BlindShelf x = new BlindShelf();
        x.put(0, 0, word0 << 32 | word1);
        x.put(0, 1, word2 << 32);
        due(14, "digest of a sum that is the modulus", digestOfClosed(x), 0L);
        x.put(0, 0, (word0 + 1) << 32 | word1);
        due(14, "digest of one more", digestOfClosed(x), 1L);
    }

    private static long digestOfClosed(BlindShelf x) {
        return x.digest(0, x.close(0));
    }

    private static long digestByWords(BlindShelf x, int version) {
        BigInteger modulus = BigInteger.TWO.pow(61).subtract(BigInteger.ONE);
        BigInteger power = BigInteger.ONE;
        BigInteger sum = BigInteger.ZERO;
        for (int j = 0; j < 512; j++) {
            long both = x.record(0, version, j / 2);
            long word = j % 2 == 0 ? both >>> 32 : both & 0xFFFFFFFFL;
            sum = sum.add(BigInteger.valueOf(word).multiply(power));
            power = power.multiply(BigInteger.valueOf(1000003));
        }
        return sum.mod(modulus).longValueExact();
    }

    private static void cipher() throws Exception {
        BlindShelf x = new BlindShelf();
        java.util.Random random = new java.util.Random(15);
        for (int i = 0; i < 2000; i++) {
            long first = i == 0 ? 0 : i == 1 ? -1 : random.nextLong();
            long second = i == 0 ? 0 : i == 1 ? -1 : random.nextLong();
            for (int key = 0; key < 2; key++) {
                byte[] want = aes(key, first, second);
                due(15, "first half", x.cipher(key, first, second, true), number(want, 0));
                due(15, "second half", x.cipher(key, first, second, false), number(want, 8));
            }
        }
        for (int key : WRONG_SERVERS) {
            refused(15, "cipher with key " + key, ARGUMENT, () -> x.cipher(key, 0, 0, true));
        }
    }

    private static void count() {
        BlindShelf x = new BlindShelf();
        x.put(0, 1, 5);
        x.put(0, 2, 6);
        x.put(0, 3, 0);
        due(16, "changes, one of them none", x.count(0, 2), 2);
        x.put(0, 2, 0);
        due(16, "changes, one taken back", x.count(0, 2), 1);
        x.put(0, 1, 7);
        due(16, "changes, one made twice", x.count(0, 2), 1);
        due(16, "latest closing's, before any", x.count(0, 3), 0);
        x.put(0, 200, 1);
        x.close(0);
        due(16, "changes after the closing", x.count(0, 2), 0);
        due(16, "latest closing's", x.count(0, 3), 2);
        x.put(0, 1, 7);
        due(16, "a change to the same", x.count(0, 2), 0);
        due(16, "latest closing's, batch open", x.count(0, 3), 2);
        x.close(0);
        due(16, "latest closing's, nothing changed", x.count(0, 3), 0);
        for (int version = 3; version <= 15; version++) {
            x.close(0);
            due(16, "newest", x.count(0, 0), version);
            due(16, "oldest", x.count(0, 1), Math.max(0, version - 8));
        }
        due(16, "the other server's newest", x.count(1, 0), 0);
        countsOfCallsAndKeys(x);
        for (int server : WRONG_SERVERS) {
            for (int what = -1; what <= 8; what++) {
                due(16, "server " + server, x.count(server, what), BlindShelf.NONE);
            }
        }
        for (int what : new int[] {-1, 8, 9, Integer.MIN_VALUE, Integer.MAX_VALUE}) {
            due(16, "what " + what, x.count(0, what), BlindShelf.NONE);
        }
    }

    private static void countsOfCallsAndKeys(BlindShelf x) {
        x.deposit(0);
        x.deposit(1);
        x.deposit(1);
        x.query(0, 15);
        x.query(0, 7);
        x.query(0, 8);
        x.query(1, 0);
        due(16, "deposits 0", x.count(0, 4), 1);
        due(16, "deposits 1", x.count(1, 4), 2);
        due(16, "queries 0", x.count(0, 5), 3);
        due(16, "queries 1", x.count(1, 5), 1);
        x.makeKeys(99, 4, 3, 2, 1, 0);
        for (int key = 0; key < 2; key++) {
            int chosen = 0;
            for (int i = 0; i < 256; i++) {
                chosen += x.choice(key, i) ? 1 : 0;
            }
            due(16, "good", x.count(key, 6), 1);
            due(16, "chosen", x.count(key, 7), chosen);
        }
        x.setKeyByte(1, 32, 255);
        due(16, "not good", x.count(1, 6), 0);
        due(16, "chosen, not good", x.count(1, 7), BlindShelf.NONE);
        due(16, "good, the other key not", x.count(0, 6), 1);
        refused(16, "query, not good", STATE, () -> x.query(1, 0));
        refused(16, "deposit, not good", STATE, () -> x.deposit(1));
        due(16, "deposits 1, one refused", x.count(1, 4), 2);
        due(16, "queries 1, one refused", x.count(1, 5), 1);
    }
}
