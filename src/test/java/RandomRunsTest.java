import java.math.BigInteger;
import java.nio.ByteBuffer;
import java.util.ArrayList;
import java.util.List;
import java.util.Random;
import java.util.TreeMap;
import javax.crypto.Cipher;
import javax.crypto.spec.SecretKeySpec;

/**
 * Runs of 512 calls chosen by a seeded generator, each answer held against a model that follows
 * the document's words with the Java library's cipher and big numbers, and keeps nothing expanded.
 */
public final class RandomRunsTest {
    private static final int RUNS = 150;
    private static final int CALLS = 512;

    private static int wrong = 0;

    public static void main(String[] args) throws Exception {
        for (int run = 0; run < RUNS; run++) {
            new Run(run).go();
        }
        System.out.println(wrong == 0 ? "all runs are as due" : wrong + " runs are not as due");
        if (wrong != 0) {
            System.exit(1);
        }
    }

    private static final class Run {
        final Random random;
        final int number;
        final BlindShelf shelf = new BlindShelf();
        final Model model = new Model();
        final List<String> calls = new ArrayList<>();

        Run(int number) throws Exception {
            this.number = number;
            this.random = new Random(9000 + number);
        }

        void go() throws Exception {
            for (int call = 0; call < CALLS; call++) {
                Object[] answers = oneCall();
                if (!answers[0].equals(answers[1])) {
                    wrong++;
                    System.out.println("run " + number + ", call " + call + ": " + calls.get(call)
                            + " answered " + answers[0] + ", due is " + answers[1]);
                    return;
                }
            }
        }

        int mostly(int bound) {
            int kind = random.nextInt(40);
            return kind == 0 ? -1 : kind == 1 ? bound : kind == 2 ? random.nextInt() : random.nextInt(bound);
        }

        int version(int server) {
            int newest = server == 0 || server == 1 ? model.newest[server] : 0;
            return random.nextInt(30) == 0 ? random.nextInt() : newest + 1 - random.nextInt(11);
        }

        long value() {
            int kind = random.nextInt(4);
            return kind == 0 ? 0 : kind == 1 ? random.nextInt(3) : random.nextLong();
        }

        int keyPlace() {
            return random.nextInt(4) == 0 ? 16 + 17 * random.nextInt(8) + 15 + random.nextInt(2) : mostly(160);
        }

        int byteFor(int i) {
            boolean strict = i >= 16 && i < 152 && (i - 16) % 17 >= 15 && random.nextInt(4) != 0;
            return !strict ? random.nextInt() : (i - 16) % 17 == 16 ? random.nextInt(4) : 2 * random.nextInt(128);
        }

        Object[] oneCall() throws Exception {
            int server = mostly(2);
            int place = mostly(256);
            switch (random.nextInt(18)) {
                case 0:
                case 1: {
                    int near = random.nextBoolean() ? place : random.nextInt(4);
                    long v = value();
                    return both("put", () -> done(() -> shelf.put(server, near, v)),
                            () -> model.put(server, near, v), server, near, v);
                }
                case 2:
                    return both("close", () -> shelf.close(server), () -> model.close(server), server);
                case 3: {
                    long[] r = {value(), value(), value(), value(), value()};
                    return both("makeKeys", () -> done(() -> shelf.makeKeys(place, r[0], r[1], r[2], r[3], r[4])),
                            () -> model.makeKeys(place, r), place, r[0], r[1], r[2], r[3], r[4]);
                }
                case 4: {
                    int i = keyPlace();
                    return both("keyByte", () -> shelf.keyByte(server, i), () -> model.keyByte(server, i), server, i);
                }
                case 5: {
                    int i = keyPlace();
                    int b = byteFor(i);
                    return both("setKeyByte", () -> done(() -> shelf.setKeyByte(server, i, b)),
                            () -> model.setKeyByte(server, i, b), server, i, b);
                }
                case 6:
                case 7:
                    return both("choice", () -> shelf.choice(server, place),
                            () -> model.expanded(server, place)[1] == 1, server, place);
                case 8:
                case 9:
                    return both("share", () -> shelf.share(server, place),
                            () -> model.expanded(server, place)[0], server, place);
                case 10: {
                    int version = version(server);
                    return both("query", () -> shelf.query(server, version),
                            () -> model.query(server, version), server, version);
                }
                case 11:
                    return both("combine", shelf::combine, () -> model.answers[0] ^ model.answers[1]);
                case 12:
                    return both("deposit", () -> done(() -> shelf.deposit(server)), () -> model.deposit(server), server);
                case 13: {
                    int box = mostly(3);
                    return both("mailbox", () -> shelf.mailbox(box, place), () -> model.mailbox(box, place), box, place);
                }
                case 14: {
                    int version = version(server);
                    int near = random.nextBoolean() ? place : random.nextInt(4);
                    return both("record", () -> shelf.record(server, version, near),
                            () -> model.record(server, version, near), server, version, near);
                }
                case 15: {
                    int version = version(server);
                    return both("digest", () -> shelf.digest(server, version),
                            () -> model.digest(server, version), server, version);
                }
                case 16: {
                    long first = value();
                    long second = value();
                    boolean upper = random.nextBoolean();
                    return both("cipher", () -> shelf.cipher(server, first, second, upper),
                            () -> model.cipher(server, first, second, upper), server, first, second, upper);
                }
                default: {
                    int what = mostly(8);
                    return both("count", () -> shelf.count(server, what), () -> model.count(server, what), server, what);
                }
            }
        }

        Object[] both(String name, Answer got, Answer want, Object... arguments) throws Exception {
            calls.add(name + java.util.Arrays.toString(arguments));
            return new Object[] {answerOf(got), answerOf(want)};
        }

        static Object answerOf(Answer answer) throws Exception {
            try {
                return answer.get();
            } catch (RuntimeException e) {
                return "throws." + e.getClass().getSimpleName();
            }
        }

        static Object done(Runnable call) {
            call.run();
            return "done";
        }
    }

    private interface Answer {
        Object get() throws Exception;
    }

    private static final class Model {
        final List<TreeMap<Integer, long[]>> versions = List.of(new TreeMap<>(), new TreeMap<>());
        final long[][] open = new long[2][256];
        final long[][] mailboxes = new long[2][256];
        final byte[][] keys = new byte[2][160];
        final long[] answers = new long[2];
        final int[] newest = new int[2];
        final int[] latest = new int[2];
        final int[] deposits = new int[2];
        final int[] queries = new int[2];
        final Cipher[] ciphers = new Cipher[2];

        Model() throws Exception {
            for (int k = 0; k < 2; k++) {
                versions.get(k).put(0, new long[256]);
                byte[] fixed = new byte[16];
                for (int i = 0; i < 16; i++) {
                    fixed[i] = (byte) (k == 0 ? 0x10 * i + 1 : 0x0F * i + 2);
                }
                ciphers[k] = Cipher.getInstance("AES/ECB/NoPadding");
                ciphers[k].init(Cipher.ENCRYPT_MODE, new SecretKeySpec(fixed, "AES"));
            }
        }

        static void argument(boolean right) {
            if (!right) {
                throw new IllegalArgumentException();
            }
        }

        static void index(boolean right) {
            if (!right) {
                throw new IndexOutOfBoundsException();
            }
        }

        static void state(boolean right) {
            if (!right) {
                throw new IllegalStateException();
            }
        }

        static boolean two(int n) {
            return n == 0 || n == 1;
        }

        static boolean place(int i) {
            return 0 <= i && i <= 255;
        }

        Object put(int server, int i, long v) {
            argument(two(server) && place(i));
            open[server][i] = v;
            return "done";
        }

        int changes(int server) {
            int changes = 0;
            for (int i = 0; i < 256; i++) {
                changes += open[server][i] != versions.get(server).get(newest[server])[i] ? 1 : 0;
            }
            return changes;
        }

        Object close(int server) {
            argument(two(server));
            latest[server] = changes(server);
            newest[server]++;
            versions.get(server).put(newest[server], open[server].clone());
            if (versions.get(server).size() > 9) {
                versions.get(server).pollFirstEntry();
            }
            return newest[server];
        }

        byte[] doubled(int half, byte[] block) throws Exception {
            byte[] out = ciphers[half].doFinal(block);
            for (int i = 0; i < 16; i++) {
                out[i] ^= block[i];
            }
            return out;
        }

        Object makeKeys(int a, long[] r) throws Exception {
            argument(place(a));
            byte[][] s = {ByteBuffer.allocate(16).putLong(r[0]).putLong(r[1]).array(),
                    ByteBuffer.allocate(16).putLong(r[2]).putLong(r[3]).array()};
            int[] t = {0, 1};
            ByteBuffer common = ByteBuffer.allocate(144);
            ByteBuffer.wrap(keys[0]).put(s[0]);
            ByteBuffer.wrap(keys[1]).put(s[1]);
            for (int level = 0; level < 8; level++) {
                int x = a >> (7 - level) & 1;
                byte[][] on = {doubled(x, s[0]), doubled(x, s[1])};
                byte[][] off = {doubled(1 - x, s[0]), doubled(1 - x, s[1])};
                int uOn = (on[0][15] ^ on[1][15] ^ 1) & 1;
                int uOff = (off[0][15] ^ off[1][15]) & 1;
                byte[] z = new byte[16];
                for (int i = 0; i < 16; i++) {
                    z[i] = (byte) ((off[0][i] ^ off[1][i]) & (i == 15 ? 0xFE : 0xFF));
                }
                common.put(z).put((byte) (x == 0 ? uOn | uOff << 1 : uOff | uOn << 1));
                for (int k = 0; k < 2; k++) {
                    int bit = on[k][15] & 1;
                    on[k][15] &= (byte) 0xFE;
                    for (int i = 0; i < 16; i++) {
                        on[k][i] ^= t[k] == 1 ? z[i] : 0;
                    }
                    t[k] = bit ^ (t[k] & uOn);
                    s[k] = on[k];
                }
            }
            common.putLong(r[4] ^ ByteBuffer.wrap(s[0]).getLong() ^ ByteBuffer.wrap(s[1]).getLong());
            ByteBuffer.wrap(keys[0]).position(16).put(common.array());
            ByteBuffer.wrap(keys[1]).position(16).put(common.array());
            return "done";
        }

        Object keyByte(int key, int i) {
            index(two(key) && 0 <= i && i < 160);
            return keys[key][i] & 0xFF;
        }

        Object setKeyByte(int key, int i, int b) {
            index(two(key) && 0 <= i && i < 160);
            keys[key][i] = (byte) b;
            return "done";
        }

        boolean good(int key) {
            for (int at = 16; at < 152; at += 17) {
                if (keys[key][at + 15] % 2 != 0 || (keys[key][at + 16] & 0xFF) > 3) {
                    return false;
                }
            }
            return true;
        }

        long[] expanded(int key, int place) throws Exception {
            index(two(key) && place(place));
            state(good(key));
            byte[] s = java.util.Arrays.copyOf(keys[key], 16);
            int t = key;
            for (int level = 0; level < 8; level++) {
                int x = place >> (7 - level) & 1;
                int at = 16 + 17 * level;
                s = doubled(x, s);
                int bit = s[15] & 1;
                s[15] &= (byte) 0xFE;
                for (int i = 0; i < 16; i++) {
                    s[i] ^= t == 1 ? keys[key][at + i] : 0;
                }
                t = t == 1 ? bit ^ (keys[key][at + 16] >> x & 1) : bit;
            }
            long v = ByteBuffer.wrap(keys[key]).getLong(152);
            return new long[] {ByteBuffer.wrap(s).getLong() ^ (t == 1 ? v : 0), t};
        }

        Object query(int server, int version) throws Exception {
            argument(two(server));
            state(versions.get(server).containsKey(version) && good(server));
            long answer = 0;
            for (int i = 0; i < 256; i++) {
                answer ^= expanded(server, i)[1] * versions.get(server).get(version)[i];
            }
            queries[server]++;
            answers[server] = answer;
            return answer;
        }

        Object deposit(int server) throws Exception {
            argument(two(server));
            state(good(server));
            for (int i = 0; i < 256; i++) {
                mailboxes[server][i] ^= expanded(server, i)[0];
            }
            deposits[server]++;
            return "done";
        }

        Object mailbox(int server, int i) {
            argument((two(server) || server == 2) && place(i));
            return server == 2 ? mailboxes[0][i] ^ mailboxes[1][i] : mailboxes[server][i];
        }

        Object record(int server, int version, int i) {
            argument(two(server) && place(i));
            state(versions.get(server).containsKey(version));
            return versions.get(server).get(version)[i];
        }

        Object digest(int server, int version) {
            argument(two(server));
            state(versions.get(server).containsKey(version));
            BigInteger modulus = BigInteger.valueOf((1L << 61) - 1);
            BigInteger power = BigInteger.ONE;
            BigInteger sum = BigInteger.ZERO;
            for (long v : versions.get(server).get(version)) {
                for (long word : new long[] {v >>> 32, v & 0xFFFFFFFFL}) {
                    sum = sum.add(power.multiply(BigInteger.valueOf(word))).mod(modulus);
                    power = power.multiply(BigInteger.valueOf(1000003)).mod(modulus);
                }
            }
            return sum.longValueExact();
        }

        Object cipher(int key, long first, long second, boolean upper) throws Exception {
            argument(two(key));
            byte[] block = ByteBuffer.allocate(16).putLong(first).putLong(second).array();
            return ByteBuffer.wrap(ciphers[key].doFinal(block)).getLong(upper ? 0 : 8);
        }

        Object count(int server, int what) throws Exception {
            if (!two(server) || what < 0 || what > 7) {
                return -1;
            }
            int chosen = good(server) ? 0 : -1;
            for (int i = 0; what == 7 && good(server) && i < 256; i++) {
                chosen += (int) expanded(server, i)[1];
            }
            int[] counts = {newest[server], versions.get(server).firstKey(), changes(server), latest[server],
                    deposits[server], queries[server], good(server) ? 1 : 0, chosen};
            return counts[what];
        }
    }
}
