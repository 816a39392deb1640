import java.math.BigInteger;

/**
 * The boundary cases that the document names for records, batches and versions: promises 1, 2, 3,
 * 13 and 14, and the term HELD. That refused calls change nothing is tested in RefusalsTest.
 */
public final class ShelfBoundariesTest {
    private static final long MODULUS = (1L << 61) - 1;
    private static final long[] EXTREMES = {0, 1, -1, Long.MIN_VALUE, Long.MAX_VALUE, 1L << 32,
            0xFFFFFFFFL, 0x80000000L, 0xFFFFFFFF00000000L};

    public static void main(String[] args) {
        newObject();
        put();
        close();
        held();
        record();
        digest();
        Checks.end();
    }

    private static void newObject() {
        Checks.test("1: all records are 0 at first", () -> {
            for (int server = 0; server < 2; server++) {
                Desk x = new Desk();
                for (int i = 0; i < 256; i++) {
                    Checks.due("record " + i, x.record(server, 0, i), 0);
                }
            }
        });
        Checks.test("1: version 0 alone is held at first", () -> {
            for (int server = 0; server < 2; server++) {
                heldAre(new Desk(), server, 0, 0);
            }
        });
        Checks.test("1: the open batch changes nothing at first", () -> {
            Desk x = new Desk();
            Checks.due("count(0, 2)", x.count(0, 2), 0);
            Checks.due("count(1, 2)", x.count(1, 2), 0);
            Checks.due("close(0)", x.close(0), 1);
            Checks.due("digest(0, 1)", x.digest(0, 1), 0);
        });
        Checks.test("1: an object has nothing of another's", () -> {
            Desk other = new Desk();
            other.put(0, 0, 5);
            other.close(0);
            other.makeKeys(1, 2, 3, 4, 5, 6);
            other.deposit(0);
            other.query(0, 1);
            Checks.same("all that a new object shows", Sight.after(Desk::new, x -> { }),
                    Sight.after(Model::new, x -> { }));
        });
    }

    private static void put() {
        Checks.test("2: the first and the last server are taken", () -> {
            for (int server = 0; server < 2; server++) {
                Desk x = new Desk();
                x.put(server, 9, 8);
                x.close(server);
                Checks.due("record", x.record(server, 1, 9), 8);
                Checks.due("the other server's batch", x.count(1 - server, 2), 0);
            }
        });
        Checks.test("2: no such server", () -> {
            for (int server : Checks.NO_SERVERS) {
                Checks.refused("put(" + server + ", 0, 1)", Checks.ARGUMENT, () -> new Desk().put(server, 0, 1));
            }
        });
        Checks.test("2: the first and the last record are taken", () -> {
            Desk x = new Desk();
            x.put(0, 0, 11);
            x.put(0, 255, 12);
            x.close(0);
            Checks.due("record 0", x.record(0, 1, 0), 11);
            Checks.due("record 255", x.record(0, 1, 255), 12);
            Checks.due("record 1", x.record(0, 1, 1), 0);
            Checks.due("record 254", x.record(0, 1, 254), 0);
        });
        Checks.test("2: no such record", () -> {
            for (int i : Checks.NO_PLACES) {
                Checks.refused("put(0, " + i + ", 1)", Checks.ARGUMENT, () -> new Desk().put(0, i, 1));
                Checks.refused("put(1, " + i + ", 1)", Checks.ARGUMENT, () -> new Desk().put(1, i, 1));
            }
        });
        Checks.test("2: neither such a server nor such a record", () -> {
            for (int server : Checks.NO_SERVERS) {
                for (int i : Checks.NO_PLACES) {
                    Checks.refused("put", Checks.ARGUMENT, () -> new Desk().put(server, i, 1));
                }
            }
        });
        Checks.test("2: a record has 64 bits, the largest and smallest numbers too", () -> {
            Desk x = new Desk();
            for (int n = 0; n < EXTREMES.length; n++) {
                x.put(1, n, EXTREMES[n]);
            }
            for (int bit = 0; bit < 64; bit++) {
                x.put(1, 100 + bit, 1L << bit);
            }
            x.close(1);
            for (int n = 0; n < EXTREMES.length; n++) {
                Checks.due("record", x.record(1, 1, n), EXTREMES[n]);
            }
            for (int bit = 0; bit < 64; bit++) {
                Checks.due("record of bit " + bit, x.record(1, 1, 100 + bit), 1L << bit);
            }
        });
        Checks.test("2: of two changes of a record in a batch the later one counts", () -> {
            Desk x = new Desk();
            x.put(0, 3, Long.MAX_VALUE);
            x.put(0, 3, Long.MIN_VALUE);
            x.close(0);
            Checks.due("record", x.record(0, 1, 3), Long.MIN_VALUE);
        });
        Checks.test("2: a change is in no version before the batch is closed", () -> {
            Desk x = new Desk();
            x.put(0, 3, 7);
            x.close(0);
            x.put(0, 3, 8);
            Checks.due("record of version 0", x.record(0, 0, 3), 0);
            Checks.due("record of version 1", x.record(0, 1, 3), 7);
            Checks.due("digest of version 1", x.digest(0, 1), digestOf(3, 7));
        });
        Checks.test("2: every record can be changed in one batch", () -> {
            for (int server = 0; server < 2; server++) {
                Desk x = new Desk();
                for (int i = 0; i < 256; i++) {
                    x.put(server, i, ~i);
                }
                x.close(server);
                for (int i = 0; i < 200; i++) {
                    Checks.due("record", x.record(server, 1, 255 - i), ~(255 - i));
                }
            }
        });
    }

    private static void close() {
        Checks.test("3: the first and the last server are taken", () -> {
            Desk x = new Desk();
            Checks.due("close(1)", x.close(1), 1);
            Checks.due("close(1)", x.close(1), 2);
            Checks.due("close(0)", x.close(0), 1);
            Checks.due("newest of 1", x.count(1, 0), 2);
        });
        Checks.test("3: no such server", () -> {
            for (int server : Checks.NO_SERVERS) {
                Checks.refused("close(" + server + ")", Checks.ARGUMENT, () -> new Desk().close(server));
            }
        });
        Checks.test("3: an empty batch makes a version too, like the one before", () -> {
            Desk x = new Desk();
            Checks.due("first closing", x.close(0), 1);
            Checks.due("digest", x.digest(0, 1), 0);
            x.put(0, 77, 5);
            x.close(0);
            Checks.due("third closing", x.close(0), 3);
            Checks.due("record", x.record(0, 3, 77), 5);
            Checks.due("digest", x.digest(0, 3), x.digest(0, 2));
            Checks.due("changes", x.count(0, 3), 0);
        });
        Checks.test("3: a batch that changes a record back makes a version like the one before", () -> {
            Desk x = new Desk();
            x.put(0, 77, 5);
            x.put(0, 77, 0);
            Checks.due("close", x.close(0), 1);
            Checks.due("record", x.record(0, 1, 77), 0);
            x.put(0, 77, 6);
            x.close(0);
            x.put(0, 77, 7);
            x.put(0, 77, 6);
            Checks.due("close", x.close(0), 3);
            Checks.due("record", x.record(0, 3, 77), 6);
        });
        Checks.test("3: a closed batch is empty: its changes are not made again", () -> {
            Desk x = new Desk();
            x.put(0, 1, 5);
            x.close(0);
            Checks.due("changes of the new batch", x.count(0, 2), 0);
            x.put(0, 2, 6);
            x.close(0);
            Checks.due("changes of the second closing", x.count(0, 3), 1);
            Checks.due("record of the first batch", x.record(0, 2, 1), 5);
        });
        Checks.test("3: one server's closing leaves the other's batch open", () -> {
            Desk x = new Desk();
            x.put(0, 1, 5);
            x.put(1, 1, 6);
            x.close(0);
            Checks.due("changes of server 1", x.count(1, 2), 1);
            Checks.due("record of server 1", x.record(1, 0, 1), 0);
            x.close(1);
            Checks.due("record of server 1", x.record(1, 1, 1), 6);
            Checks.due("record of server 0", x.record(0, 1, 1), 5);
        });
    }

    /** Version n of server s has n in record 40 and 1000 * n + s in record n of 100 on. */
    private static Desk withVersions(int server, int versions) {
        Desk x = new Desk();
        for (int n = 1; n <= versions; n++) {
            x.put(server, 40, n);
            x.put(server, 100 + n, 1000L * n + server);
            x.close(server);
        }
        return x;
    }

    private static void heldAre(Desk x, int server, int oldest, int newest) {
        for (int version = oldest; version <= newest; version++) {
            int held = version;
            Checks.taken("record of version " + version, () -> x.record(server, held, 0));
            Checks.taken("digest of version " + version, () -> x.digest(server, held));
            Checks.taken("query of version " + version, () -> x.query(server, held));
        }
        int[] others = {oldest - 1, newest + 1, oldest - 9, newest + 9, -1, Integer.MIN_VALUE,
                Integer.MAX_VALUE, newest ^ Integer.MIN_VALUE, newest + 0x10000, newest + 256, -newest - 1};
        for (int version : others) {
            Checks.refused("record of version " + version, Checks.STATE, () -> x.record(server, version, 0));
            Checks.refused("digest of version " + version, Checks.STATE, () -> x.digest(server, version));
            Checks.refused("query of version " + version, Checks.STATE, () -> x.query(server, version));
        }
    }

    private static void held() {
        for (int closings = 0; closings <= 30; closings++) {
            int newest = closings;
            int oldest = Math.max(0, closings - 8);
            Checks.test("HELD: versions " + oldest + " to " + newest + " after " + closings + " closings", () -> {
                heldAre(withVersions(0, newest), 0, oldest, newest);
                heldAre(withVersions(1, newest), 1, oldest, newest);
            });
        }
        Checks.test("HELD: version 0 is the first that is held after eight closings, version 1 after nine", () -> {
            Desk x = withVersions(0, 8);
            Checks.due("record of version 0", x.record(0, 0, 40), 0);
            x.close(0);
            Checks.refused("record of version 0", Checks.STATE, () -> x.record(0, 0, 40));
            Checks.due("record of version 1", x.record(0, 1, 40), 1);
        });
        Checks.test("HELD: by each server for itself", () -> {
            Desk x = withVersions(1, 12);
            Checks.refused("record(0, 12, 0)", Checks.STATE, () -> x.record(0, 12, 0));
            Checks.refused("record(0, 4, 0)", Checks.STATE, () -> x.record(0, 4, 0));
            Checks.refused("record(1, 0, 0)", Checks.STATE, () -> x.record(1, 0, 0));
            Checks.due("record(0, 0, 40)", x.record(0, 0, 40), 0);
            Checks.due("record(1, 4, 40)", x.record(1, 4, 40), 4);
        });
    }

    private static void record() {
        Checks.test("13: the first and the last server and record are taken", () -> {
            Desk x = new Desk();
            for (int server = 0; server < 2; server++) {
                x.put(server, 0, 5 + server);
                x.put(server, 255, 7 + server);
                x.close(server);
            }
            for (int server = 0; server < 2; server++) {
                Checks.due("record 0", x.record(server, 1, 0), 5 + server);
                Checks.due("record 255", x.record(server, 1, 255), 7 + server);
            }
        });
        Checks.test("13: no such server, the version held by none too", () -> {
            for (int server : Checks.NO_SERVERS) {
                for (int version : new int[] {0, 1, -1}) {
                    Checks.refused("record(" + server + ", " + version + ", 0)", Checks.ARGUMENT,
                            () -> new Desk().record(server, version, 0));
                }
            }
        });
        Checks.test("13: no such record, the version not held too", () -> {
            for (int i : Checks.NO_PLACES) {
                for (int version : new int[] {0, 1, -1, Integer.MIN_VALUE, Integer.MAX_VALUE}) {
                    Checks.refused("record(0, " + version + ", " + i + ")", Checks.ARGUMENT,
                            () -> new Desk().record(0, version, i));
                    Checks.refused("record(1, " + version + ", " + i + ")", Checks.ARGUMENT,
                            () -> new Desk().record(1, version, i));
                }
            }
        });
        Checks.test("13: no such server, record or version", () -> {
            for (int server : Checks.NO_SERVERS) {
                for (int i : Checks.NO_PLACES) {
                    Checks.refused("record", Checks.ARGUMENT, () -> new Desk().record(server, 99, i));
                }
            }
        });
        Checks.test("13: the version is not held", () -> {
            for (int version : new int[] {-1, 1, Integer.MIN_VALUE, Integer.MAX_VALUE}) {
                Checks.refused("record(0, " + version + ", 0)", Checks.STATE, () -> new Desk().record(0, version, 0));
                Checks.refused("record(1, " + version + ", 255)", Checks.STATE,
                        () -> new Desk().record(1, version, 255));
            }
        });
        Checks.test("13: each version that is held has its own records", () -> {
            for (int server = 0; server < 2; server++) {
                for (int newest : new int[] {8, 9, 10, 17, 18, 19, 27}) {
                    Desk x = withVersions(server, newest);
                    for (int version = newest - 8; version <= newest; version++) {
                        Checks.due("record 40", x.record(server, version, 40), version);
                        for (int n = 1; n <= newest; n++) {
                            Checks.due("record " + (100 + n) + " of version " + version,
                                    x.record(server, version, 100 + n), n <= version ? 1000L * n + server : 0);
                        }
                    }
                }
            }
        });
        Checks.test("13: a record is read by a server whose key is not good", () -> {
            Desk x = withVersions(0, 2);
            x.setKeyByte(0, 31, 1);
            Checks.due("record", x.record(0, 2, 40), 2);
            Checks.taken("digest", () -> x.digest(0, 2));
        });
    }

    private static void digest() {
        Checks.test("14: the first and the last server are taken", () -> {
            Desk x = new Desk();
            x.put(1, 0, 1L << 32);
            x.close(1);
            Checks.due("digest(0, 0)", x.digest(0, 0), 0);
            Checks.due("digest(1, 0)", x.digest(1, 0), 0);
            Checks.due("digest(1, 1)", x.digest(1, 1), 1);
        });
        Checks.test("14: no such server, the version held by none too", () -> {
            for (int server : Checks.NO_SERVERS) {
                for (int version : new int[] {0, 1, -1, Integer.MIN_VALUE, Integer.MAX_VALUE}) {
                    Checks.refused("digest(" + server + ", " + version + ")", Checks.ARGUMENT,
                            () -> new Desk().digest(server, version));
                }
            }
        });
        Checks.test("14: the version is not held", () -> {
            for (int version : new int[] {-1, 1, Integer.MIN_VALUE, Integer.MAX_VALUE}) {
                Checks.refused("digest(0, " + version + ")", Checks.STATE, () -> new Desk().digest(0, version));
                Checks.refused("digest(1, " + version + ")", Checks.STATE, () -> new Desk().digest(1, version));
            }
        });
        Checks.test("14: the words' numbers go from 0, record 0's upper one, to 511, record 255's lower one", () -> {
            for (int j = 0; j < 512; j++) {
                long one = j % 2 == 0 ? 1L << 32 : 1L;
                Desk x = new Desk();
                x.put(0, j / 2, one);
                x.close(0);
                Checks.due("digest of word " + j, x.digest(0, 1), digestOf(j / 2, one));
            }
        });
        Checks.test("14: words are not negative", () -> {
            for (long v : EXTREMES) {
                for (int i : new int[] {0, 1, 254, 255}) {
                    Desk x = new Desk();
                    x.put(0, i, v);
                    x.close(0);
                    Checks.due("digest of " + v + " in " + i, x.digest(0, 1), digestOf(i, v));
                }
            }
        });
        Checks.test("14: sums round the modulus and its multiples", () -> {
            for (long times = 0; times <= 4; times++) {
                for (long more = times == 0 ? 0 : -2; more <= 3; more++) {
                    long sum = MODULUS * times + more;
                    Checks.due("digest of the sum " + sum, digestOfSum(sum), Math.floorMod(sum, MODULUS));
                }
            }
            Checks.due("digest of the largest sum", digestOfSum(Long.MAX_VALUE), 3);
        });
        Checks.test("14: every record the same extreme", () -> {
            for (long v : EXTREMES) {
                Desk x = new Desk();
                BigInteger sum = BigInteger.ZERO;
                for (int i = 0; i < 256; i++) {
                    x.put(1, i, v);
                    sum = sum.add(BigInteger.valueOf(digestOf(i, v)));
                }
                x.close(1);
                Checks.due("digest of " + v, x.digest(1, 1), sum.mod(BigInteger.valueOf(MODULUS)).longValueExact());
            }
        });
    }

    /** By the document's words, all other records being 0. */
    private static long digestOf(int i, long v) {
        BigInteger base = BigInteger.valueOf(1000003);
        BigInteger upper = BigInteger.valueOf(v >>> 32).multiply(base.pow(2 * i));
        BigInteger lower = BigInteger.valueOf(v & 0xFFFFFFFFL).multiply(base.pow(2 * i + 1));
        return upper.add(lower).mod(BigInteger.valueOf(MODULUS)).longValueExact();
    }

    /** Words 0, 1 and 2 are the sum's digits to the base 1000003, the last one with all the rest. */
    private static long digestOfSum(long sum) {
        long base = 1000003L;
        Desk x = new Desk();
        x.put(0, 0, sum % base << 32 | sum / base % base);
        x.put(0, 1, sum / base / base << 32);
        x.close(0);
        return x.digest(0, 1);
    }
}
