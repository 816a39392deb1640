import java.util.Arrays;

/**
 * A library desk at which two servers hold the same records, and a reader gets one of them
 * by two short keys of which neither says alone which record it is.
 */
public final class BlindShelf {
    public static final int NONE = -1;

    private static final int SERVERS = 2;
    private static final int BOTH = 2;
    private static final int PLACES = 256;

    private final BlockCipher blocks;
    private final KeyMaker maker;
    private final Key[] keys;
    private final Server[] servers;

    public BlindShelf() {
        blocks = new BlockCipher();
        maker = new KeyMaker();
        keys = new Key[] {new Key(0), new Key(1)};
        servers = new Server[] {new Server(), new Server()};
    }

    public void put(int server, int i, long v) throws IllegalArgumentException {
        requireServer(server);
        requirePlace(i);
        servers[server].shelf.change(i, v);
    }

    public int close(int server) throws IllegalArgumentException {
        requireServer(server);
        return servers[server].shelf.closeBatch();
    }

    public void makeKeys(int a, long first0, long second0, long first1, long second1, long message)
            throws IllegalArgumentException {
        requirePlace(a);
        keys[0].setRoot(first0, second0);
        keys[1].setRoot(first1, second1);
        maker.make(keys, a, message, blocks);
    }

    public int keyByte(int key, int i) throws IndexOutOfBoundsException {
        requireKeyByte(key, i);
        return keys[key].bytes[i];
    }

    public void setKeyByte(int key, int i, int b) throws IndexOutOfBoundsException {
        requireKeyByte(key, i);
        keys[key].setByte(i, b);
    }

    public boolean choice(int key, int i) throws IndexOutOfBoundsException, IllegalStateException {
        requireKeyPlace(key, i);
        requireGood(key);
        return keys[key].chooses(i, blocks);
    }

    public long share(int key, int i) throws IndexOutOfBoundsException, IllegalStateException {
        requireKeyPlace(key, i);
        requireGood(key);
        return keys[key].shareOf(i, blocks);
    }

    public long query(int server, int version) throws IllegalArgumentException, IllegalStateException {
        requireServer(server);
        requireHeld(server, version);
        requireGood(server);
        long[] records = servers[server].shelf.recordsOf(version);
        long answer = 0;
        for (int i = 0; i < PLACES; i++) {
            if (keys[server].chooses(i, blocks)) {
                answer ^= records[i];
            }
        }
        servers[server].answer = answer;
        servers[server].queries++;
        return answer;
    }

    public long combine() {
        return servers[0].answer ^ servers[1].answer;
    }

    public void deposit(int server) throws IllegalArgumentException, IllegalStateException {
        requireServer(server);
        requireGood(server);
        long[] letters = servers[server].letters;
        for (int i = 0; i < PLACES; i++) {
            letters[i] ^= keys[server].shareOf(i, blocks);
        }
        servers[server].deposits++;
    }

    public long mailbox(int server, int i) throws IllegalArgumentException {
        requirePlace(i);
        if (server == BOTH) {
            return servers[0].letters[i] ^ servers[1].letters[i];
        }
        requireServer(server);
        return servers[server].letters[i];
    }

    public long record(int server, int version, int i)
            throws IllegalArgumentException, IllegalStateException {
        requireServer(server);
        requirePlace(i);
        requireHeld(server, version);
        return servers[server].shelf.recordsOf(version)[i];
    }

    public long digest(int server, int version) throws IllegalArgumentException, IllegalStateException {
        requireServer(server);
        requireHeld(server, version);
        return Digest.of(servers[server].shelf.recordsOf(version));
    }

    public long cipher(int key, long first, long second, boolean upper)
            throws IllegalArgumentException {
        if (key != 0 && key != 1) {
            throw new IllegalArgumentException("no such fixed key");
        }
        blocks.encipher(key, first, second);
        return upper ? blocks.first : blocks.second;
    }

    public int count(int server, int what) {
        if (!isServer(server)) {
            return NONE;
        }
        Server counted = servers[server];
        switch (what) {
            case 0:
                return counted.shelf.newest;
            case 1:
                return counted.shelf.oldestHeld();
            case 2:
                return counted.shelf.openChanges();
            case 3:
                return counted.shelf.latestChanges;
            case 4:
                return counted.deposits;
            case 5:
                return counted.queries;
            case 6:
                return keys[server].isGood() ? 1 : 0;
            case 7:
                return keys[server].isGood() ? keys[server].chosenPlaces(blocks) : NONE;
            default:
                return NONE;
        }
    }

    private static boolean isServer(int server) {
        return server >= 0 && server < SERVERS;
    }

    // Each key has the number of the server that answers it.
    private static boolean isKey(int key) {
        return isServer(key);
    }

    private static boolean isPlace(int i) {
        return i >= 0 && i < PLACES;
    }

    private static void requireServer(int server) {
        if (!isServer(server)) {
            throw new IllegalArgumentException("no such server");
        }
    }

    private static void requirePlace(int i) {
        if (!isPlace(i)) {
            throw new IllegalArgumentException("no such place");
        }
    }

    private static void requireKeyByte(int key, int i) {
        if (!isKey(key) || i < 0 || i >= Key.SIZE) {
            throw new IndexOutOfBoundsException("no such key or byte");
        }
    }

    private static void requireKeyPlace(int key, int i) {
        if (!isKey(key) || !isPlace(i)) {
            throw new IndexOutOfBoundsException("no such key or place");
        }
    }

    private void requireHeld(int server, int version) {
        if (!servers[server].shelf.isHeld(version)) {
            throw new IllegalStateException("version not held");
        }
    }

    private void requireGood(int key) {
        if (!keys[key].isGood()) {
            throw new IllegalStateException("key not good");
        }
    }

    /** What one server has beside its key. */
    private static final class Server {
        final Shelf shelf = new Shelf();
        final long[] letters = new long[PLACES];
        long answer;
        int deposits;
        int queries;
    }

    /** The records of a server in all versions that are held, and its open batch. */
    private static final class Shelf {
        private static final int HELD = 9;

        // A version's row is used again for the one that comes nine later, when it is held no more.
        private final long[][] rows = new long[HELD][PLACES];
        // All records as they are with the batch's changes, so that a change taken back is none.
        private final long[] open = new long[PLACES];
        int newest;
        int latestChanges;

        void change(int i, long v) {
            open[i] = v;
        }

        int closeBatch() {
            latestChanges = openChanges();
            newest++;
            System.arraycopy(open, 0, recordsOf(newest), 0, PLACES);
            return newest;
        }

        int openChanges() {
            long[] closed = recordsOf(newest);
            int changes = 0;
            for (int i = 0; i < PLACES; i++) {
                if (open[i] != closed[i]) {
                    changes++;
                }
            }
            return changes;
        }

        int oldestHeld() {
            return Math.max(0, newest - HELD + 1);
        }

        boolean isHeld(int version) {
            return version >= oldestHeld() && version <= newest;
        }

        long[] recordsOf(int version) {
            return rows[Math.floorMod(version, HELD)];
        }
    }

    /** The sum over a version's words, taken from the last word down (Horner's rule). */
    private static final class Digest {
        private static final long MODULUS = (1L << 61) - 1;
        private static final long FACTOR = 1000003L;
        private static final long LOW_32 = (1L << 32) - 1;
        private static final long LOW_40 = (1L << 40) - 1;
        private static final long LOW_21 = (1L << 21) - 1;

        static long of(long[] records) {
            long sum = 0;
            for (int i = records.length - 1; i >= 0; i--) {
                sum = timesFactorPlus(sum, records[i] & LOW_32);
                sum = timesFactorPlus(sum, records[i] >>> 32);
            }
            return sum;
        }

        // The product has up to 81 bits, so the sum's upper 21 and lower 40 are multiplied apart;
        // what goes beyond 61 bits counts from 1 on again, for 2^61 is 1 by this modulus.
        private static long timesFactorPlus(long sum, long word) {
            long upper = (sum >>> 40) * FACTOR;
            long lower = (sum & LOW_40) * FACTOR;
            return reduced(lower + (upper >>> 21) + ((upper & LOW_21) << 40) + word);
        }

        private static long reduced(long n) {
            long folded = (n & MODULUS) + (n >>> 61);
            return folded >= MODULUS ? folded - MODULUS : folded;
        }
    }

    /** A key's bytes, and what has been walked of its expansion since they were last changed. */
    private static final class Key {
        static final int SIZE = 160;
        static final int LEVELS = 8;
        private static final int LEVELS_AT = 16;
        private static final int LEVEL_SIZE = 17;
        private static final int LAST_AT = 152;
        private static final int UNKNOWN = -1;

        final int[] bytes = new int[SIZE];
        private final int number;
        // States by node: 1 is the root, 2 * n + x comes by bit x from n, PLACES + i is place i.
        private final long[] firsts = new long[2 * PLACES];
        private final long[] seconds = new long[2 * PLACES];
        private final int[] bits = new int[2 * PLACES];

        Key(int number) {
            this.number = number;
            forgetWalks();
        }

        void setByte(int i, int b) {
            bytes[i] = b & 0xFF;
            forgetWalks();
        }

        // Making a key writes it whole by these three, and forgets the walks once behind the last.
        void setRoot(long first, long second) {
            writeHalf(0, first);
            writeHalf(8, second);
        }

        void setLevel(int level, long first, long second, int flags) {
            int at = LEVELS_AT + LEVEL_SIZE * level;
            writeHalf(at, first);
            writeHalf(at + 8, second);
            bytes[at + 16] = flags;
        }

        void setLast(long v) {
            writeHalf(LAST_AT, v);
        }

        boolean isGood() {
            for (int level = 0; level < LEVELS; level++) {
                int at = LEVELS_AT + LEVEL_SIZE * level;
                if ((bytes[at + 15] & 1) != 0 || (bytes[at + 16] & 0xFC) != 0) {
                    return false;
                }
            }
            return true;
        }

        boolean chooses(int place, BlockCipher blocks) {
            walkTo(place, blocks);
            return bits[PLACES + place] == 1;
        }

        long shareOf(int place, BlockCipher blocks) {
            walkTo(place, blocks);
            long first = firsts[PLACES + place];
            return bits[PLACES + place] == 1 ? first ^ readHalf(LAST_AT) : first;
        }

        int chosenPlaces(BlockCipher blocks) {
            int chosen = 0;
            for (int i = 0; i < PLACES; i++) {
                walkTo(i, blocks);
                chosen += bits[PLACES + i];
            }
            return chosen;
        }

        private void walkTo(int place, BlockCipher blocks) {
            for (int level = 0; level < LEVELS; level++) {
                int next = (PLACES + place) >> (LEVELS - 1 - level);
                if (bits[next] == UNKNOWN) {
                    step(level, next, blocks);
                }
            }
        }

        private void step(int level, int next, BlockCipher blocks) {
            int from = next >> 1;
            int x = next & 1;
            blocks.half(x, firsts[from], seconds[from]);
            long first = blocks.first;
            long second = blocks.second;
            int bit = blocks.bit;
            if (bits[from] == 1) {
                int at = LEVELS_AT + LEVEL_SIZE * level;
                first ^= readHalf(at);
                second ^= readHalf(at + 8);
                bit ^= (bytes[at + 16] >> x) & 1;
            }
            firsts[next] = first;
            seconds[next] = second;
            bits[next] = bit;
        }

        void forgetWalks() {
            Arrays.fill(bits, UNKNOWN);
            firsts[1] = readHalf(0);
            seconds[1] = readHalf(8);
            bits[1] = number;
        }

        long readHalf(int at) {
            long half = 0;
            for (int i = 0; i < 8; i++) {
                half = half << 8 | bytes[at + i];
            }
            return half;
        }

        private void writeHalf(int at, long half) {
            for (int i = 0; i < 8; i++) {
                bytes[at + i] = (int) (half >>> (56 - 8 * i)) & 0xFF;
            }
        }
    }

    /** Walks both keys to a place together and writes what makes them differ there alone. */
    private static final class KeyMaker {
        private final long[] firsts = new long[2];
        private final long[] seconds = new long[2];
        private final int[] bits = new int[2];
        private final int[] halfBits = new int[2];
        private long zFirst;
        private long zSecond;
        private int flags;

        /** Both roots stand in the keys already. */
        void make(Key[] keys, int place, long message, BlockCipher blocks) {
            for (int k = 0; k < 2; k++) {
                firsts[k] = keys[k].readHalf(0);
                seconds[k] = keys[k].readHalf(8);
                bits[k] = k;
            }
            for (int level = 0; level < Key.LEVELS; level++) {
                int x = (place >> (Key.LEVELS - 1 - level)) & 1;
                takeHalves(x, blocks);
                keys[0].setLevel(level, zFirst, zSecond, flags);
                keys[1].setLevel(level, zFirst, zSecond, flags);
                goOn(x);
            }
            long last = message ^ firsts[0] ^ firsts[1];
            for (int k = 0; k < 2; k++) {
                keys[k].setLast(last);
                keys[k].forgetWalks();
            }
        }

        // Both other halves go into Z; both blocks become their halves on the way.
        private void takeHalves(int x, BlockCipher blocks) {
            int y = 1 - x;
            zFirst = 0;
            zSecond = 0;
            flags = 1 << x;
            for (int k = 0; k < 2; k++) {
                blocks.half(y, firsts[k], seconds[k]);
                zFirst ^= blocks.first;
                zSecond ^= blocks.second;
                flags ^= blocks.bit << y;
                blocks.half(x, firsts[k], seconds[k]);
                firsts[k] = blocks.first;
                seconds[k] = blocks.second;
                halfBits[k] = blocks.bit;
                flags ^= blocks.bit << x;
            }
        }

        private void goOn(int x) {
            for (int k = 0; k < 2; k++) {
                int bit = halfBits[k];
                if (bits[k] == 1) {
                    firsts[k] ^= zFirst;
                    seconds[k] ^= zSecond;
                    bit ^= (flags >> x) & 1;
                }
                bits[k] = bit;
            }
        }
    }

    /** The cipher with both fixed keys; what it answers stands in its fields until the next call. */
    private static final class BlockCipher {
        private static final int ROUNDS = 10;
        private static final int WORDS = 44;

        private final int[] substitutes = new int[256];
        // What COLUMNS makes of S of a byte as the first one of four, as one word; turned by k bytes
        // it is that of the k-th.
        private final int[] columns = new int[256];
        private final int[][] roundKeys = new int[2][WORDS];
        long first;
        long second;
        int bit;

        BlockCipher() {
            fillTables();
            fillRoundKeys(roundKeys[0], 0x10, 1);
            fillRoundKeys(roundKeys[1], 0x0F, 2);
        }

        /** Half H of a block, its bit taken out of it. */
        void half(int key, long blockFirst, long blockSecond) {
            encipher(key, blockFirst, blockSecond);
            first ^= blockFirst;
            second ^= blockSecond;
            bit = (int) second & 1;
            second ^= bit;
        }

        void encipher(int key, long blockFirst, long blockSecond) {
            int[] words = roundKeys[key];
            int a = (int) (blockFirst >>> 32) ^ words[0];
            int b = (int) blockFirst ^ words[1];
            int c = (int) (blockSecond >>> 32) ^ words[2];
            int d = (int) blockSecond ^ words[3];
            for (int r = 1; r < ROUNDS; r++) {
                int nextA = mixed(a, b, c, d) ^ words[4 * r];
                int nextB = mixed(b, c, d, a) ^ words[4 * r + 1];
                int nextC = mixed(c, d, a, b) ^ words[4 * r + 2];
                int nextD = mixed(d, a, b, c) ^ words[4 * r + 3];
                a = nextA;
                b = nextB;
                c = nextC;
                d = nextD;
            }
            first = joined(substituted(a, b, c, d) ^ words[40], substituted(b, c, d, a) ^ words[41]);
            second = joined(substituted(c, d, a, b) ^ words[42], substituted(d, a, b, c) ^ words[43]);
        }

        // S, ROWS and COLUMNS for the word p: byte k comes from the k-th word from it on.
        private int mixed(int p, int q, int r, int s) {
            int ofQ = columns[(q >>> 16) & 0xFF];
            int ofR = columns[(r >>> 8) & 0xFF];
            int ofS = columns[s & 0xFF];
            return columns[p >>> 24]
                    ^ (ofQ >>> 8 | ofQ << 24)
                    ^ (ofR >>> 16 | ofR << 16)
                    ^ (ofS >>> 24 | ofS << 8);
        }

        // S and ROWS alone.
        private int substituted(int p, int q, int r, int s) {
            return substitutes[p >>> 24] << 24
                    | substitutes[(q >>> 16) & 0xFF] << 16
                    | substitutes[(r >>> 8) & 0xFF] << 8
                    | substitutes[s & 0xFF];
        }

        private static long joined(int upper, int lower) {
            return (long) upper << 32 | (lower & 0xFFFFFFFFL);
        }

        // Each byte but 0 is one of the 255 powers of x + 1, and power 255 - i undoes power i.
        private void fillTables() {
            int[] powers = new int[256];
            int power = 1;
            for (int i = 0; i < 256; i++) {
                powers[i] = power;
                power ^= timesX(power);
            }
            setTables(0, 0);
            for (int i = 0; i < 255; i++) {
                setTables(powers[i], powers[255 - i]);
            }
        }

        private void setTables(int b, int inverse) {
            int twice = inverse | inverse << 8;
            int s = (twice ^ twice >>> 4 ^ twice >>> 5 ^ twice >>> 6 ^ twice >>> 7 ^ 0x63) & 0xFF;
            substitutes[b] = s;
            columns[b] = timesX(s) << 24 | s << 16 | s << 8 | (timesX(s) ^ s);
        }

        private void fillRoundKeys(int[] words, int factor, int start) {
            for (int k = 0; k < 16; k++) {
                words[k / 4] = words[k / 4] << 8 | ((factor * k + start) & 0xFF);
            }
            int power = 1;
            for (int i = 4; i < WORDS; i++) {
                int before = words[i - 1];
                if (i % 4 == 0) {
                    int turned = before << 8 | before >>> 24;
                    before = substituted(turned, turned, turned, turned) ^ power << 24;
                    power = timesX(power);
                }
                words[i] = words[i - 4] ^ before;
            }
        }

        private static int timesX(int b) {
            return (b & 0x80) == 0 ? b << 1 : (b << 1 ^ 0x11B);
        }
    }
}
