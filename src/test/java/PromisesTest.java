import java.util.Random;

/**
 * Each promise by ordinary inputs, some of them with the answers that the document's own tests
 * give. The boundary cases have tests of their own beside this one.
 */
public final class PromisesTest {
    public static void main(String[] args) {
        Checks.test("1: a new object", PromisesTest::newObject);
        Checks.test("2: put", PromisesTest::put);
        Checks.test("3: close", PromisesTest::close);
        Checks.test("4: makeKeys", PromisesTest::makeKeys);
        Checks.test("5: keyByte", PromisesTest::keyByte);
        Checks.test("6: setKeyByte", PromisesTest::setKeyByte);
        Checks.test("7: choice", PromisesTest::choice);
        Checks.test("8: share", PromisesTest::share);
        Checks.test("9: query", PromisesTest::query);
        Checks.test("10: combine", PromisesTest::combine);
        Checks.test("11: deposit", PromisesTest::deposit);
        Checks.test("12: mailbox", PromisesTest::mailbox);
        Checks.test("13: record", PromisesTest::record);
        Checks.test("14: digest", PromisesTest::digest);
        Checks.test("15: cipher", PromisesTest::cipher);
        Checks.test("16: count", PromisesTest::count);
        Checks.end();
    }

    private static void newObject() {
        Desk x = new Desk();
        int[] counts = {0, 0, 0, 0, 0, 0, 1};
        for (int server = 0; server < 2; server++) {
            for (int what = 0; what < counts.length; what++) {
                Checks.due("count " + what, x.count(server, what), counts[what]);
            }
            Checks.due("record", x.record(server, 0, 100), 0);
            Checks.due("mailbox", x.mailbox(server, 100), 0);
            Checks.due("keyByte", x.keyByte(server, 100), 0);
        }
        Checks.due("combine", x.combine(), 0);
    }

    private static void put() {
        Desk x = new Desk();
        x.put(0, 5, 77);
        x.put(0, 200, 9);
        Checks.due("record before the closing", x.record(0, 0, 5), 0);
        x.close(0);
        Checks.due("record 5", x.record(0, 1, 5), 77);
        Checks.due("record 200", x.record(0, 1, 200), 9);
        Checks.due("record not put", x.record(0, 1, 6), 0);
        Checks.due("the other server's batch", x.count(1, 2), 0);
    }

    private static void close() {
        Desk x = new Desk();
        for (int version = 1; version <= 30; version++) {
            x.put(0, version, 100 + version);
            Checks.due("close", x.close(0), version);
        }
        for (int version = 22; version <= 30; version++) {
            for (int i = 1; i <= 30; i++) {
                Checks.due("record", x.record(0, version, i), i <= version ? 100 + i : 0);
            }
        }
    }

    private static void makeKeys() {
        Desk x = new Desk();
        Model model = new Model();
        x.makeKeys(5, 1, 2, 3, 4, 1000);
        model.makeKeys(5, 1, 2, 3, 4, 1000);
        for (int i = 0; i < 160; i++) {
            Checks.due("byte " + i + " of key 0", x.keyByte(0, i), model.keyByte(0, i));
            Checks.due("byte " + i + " of key 1", x.keyByte(1, i), model.keyByte(1, i));
        }
        Checks.due("shares at 5", x.share(0, 5) ^ x.share(1, 5), 1000);
        Checks.due("shares at 6", x.share(0, 6) ^ x.share(1, 6), 0);
    }

    private static void keyByte() {
        Desk x = new Desk();
        x.makeKeys(3, 0x0102030405060708L, 0x090A0B0C0D0E0F10L, -1L, 0xFEL, 0);
        for (int i = 0; i < 16; i++) {
            Checks.due("root byte of key 0", x.keyByte(0, i), i + 1);
        }
        Checks.due("keyByte(1, 7)", x.keyByte(1, 7), 255);
        Checks.due("keyByte(1, 8)", x.keyByte(1, 8), 0);
        Checks.due("keyByte(1, 15)", x.keyByte(1, 15), 254);
    }

    private static void setKeyByte() {
        Desk x = new Desk();
        for (int i = 0; i < 160; i++) {
            x.setKeyByte(1, i, 1000 + i);
        }
        for (int i = 0; i < 160; i++) {
            Checks.due("keyByte " + i, x.keyByte(1, i), (1000 + i) % 256);
            Checks.due("byte of the other key", x.keyByte(0, i), 0);
        }
    }

    private static void choice() {
        Desk x = new Desk();
        Model model = new Model();
        x.makeKeys(100, -9, 8, 7, -6, 5);
        model.makeKeys(100, -9, 8, 7, -6, 5);
        for (int i = 1; i < 255; i++) {
            Checks.due("choice(0, " + i + ")", x.choice(0, i), model.choice(0, i));
            Checks.due("choice(1, " + i + ")", x.choice(1, i), model.choice(1, i));
        }
    }

    private static void share() {
        Desk x = new Desk();
        Model model = new Model();
        x.makeKeys(5, 1, 2, 3, 4, 1000);
        model.makeKeys(5, 1, 2, 3, 4, 1000);
        Checks.due("share(0, 5)", x.share(0, 5), 4745910917977529116L);
        Checks.due("share(1, 5)", x.share(1, 5), 4745910917977528564L);
        for (int i = 6; i < 250; i++) {
            Checks.due("share(0, " + i + ")", x.share(0, i), model.share(0, i));
            Checks.due("share(1, " + i + ")", x.share(1, i), model.share(1, i));
        }
    }

    private static void query() {
        Desk x = new Desk();
        x.put(0, 5, 77);
        x.put(1, 5, 77);
        x.put(0, 200, 9);
        x.put(1, 200, 9);
        x.close(0);
        x.close(1);
        x.makeKeys(5, 1, 2, 3, 4, 1000);
        Checks.due("query(0, 1)", x.query(0, 1), 68);
        Checks.due("query(1, 1)", x.query(1, 1), 9);
        Checks.due("query(0, 0)", x.query(0, 0), 0);
    }

    private static void combine() {
        Desk x = new Desk();
        for (int i = 0; i < 100; i++) {
            x.put(0, 2 * i, ~(long) i * i * i);
            x.put(1, 2 * i, ~(long) i * i * i);
        }
        x.close(0);
        x.close(1);
        for (int i = 0; i < 256; i += 17) {
            x.makeKeys(i, i, -i, 3 * i, 1 - i, 0);
            x.query(0, 1);
            x.query(1, 1);
            Checks.due("combine for " + i, x.combine(), x.record(0, 1, i));
        }
    }

    private static void deposit() {
        Desk x = new Desk();
        x.makeKeys(12, 1, 2, 3, 4, 0xABCDL);
        x.deposit(0);
        x.deposit(1);
        x.makeKeys(12, 5, 6, 7, 8, 0x1111L);
        x.deposit(0);
        x.deposit(1);
        x.makeKeys(13, 9, 6, 7, 8, -1L);
        x.deposit(0);
        x.deposit(1);
        for (int i = 0; i < 256; i++) {
            long want = i == 12 ? 0xABCDL ^ 0x1111L : i == 13 ? -1L : 0L;
            Checks.due("both mailboxes, " + i, x.mailbox(2, i), want);
        }
    }

    private static void mailbox() {
        Desk x = new Desk();
        x.makeKeys(30, 1, 2, 3, 4, 5);
        x.deposit(0);
        x.deposit(1);
        for (int i = 0; i < 100; i++) {
            long share0 = x.share(0, i);
            long share1 = x.share(1, i);
            Checks.due("mailbox(0, " + i + ")", x.mailbox(0, i), share0);
            Checks.due("mailbox(1, " + i + ")", x.mailbox(1, i), share1);
            Checks.due("mailbox(2, " + i + ")", x.mailbox(2, i), share0 ^ share1);
        }
    }

    private static void record() {
        Desk x = new Desk();
        for (int version = 1; version <= 20; version++) {
            x.put(1, 40, -version);
            x.put(1, 41, 50);
            x.close(1);
            Checks.due("newest", x.record(1, version, 40), -version);
            Checks.due("oldest", x.record(1, Math.max(0, version - 8), 40), -Math.max(0, version - 8));
        }
        Checks.due("record that stayed", x.record(1, 15, 41), 50);
        Checks.due("the other server's record", x.record(0, 0, 40), 0);
    }

    private static void digest() {
        Desk x = new Desk();
        Model model = new Model();
        Random random = new Random(14);
        x.put(0, 5, 77);
        x.put(0, 200, 9);
        x.close(0);
        Checks.due("digest(0, 1)", x.digest(0, 1), 1428730970945556855L);
        for (int i = 0; i < 256; i++) {
            long v = random.nextLong();
            x.put(0, i, v);
            model.put(0, i, v);
        }
        x.close(0);
        model.close(0);
        Checks.due("digest(0, 2)", x.digest(0, 2), model.digest(0, 1));
    }

    private static void cipher() {
        Model model = new Model();
        Random random = new Random(15);
        for (int n = 0; n < 20; n++) {
            Desk x = new Desk();
            for (int i = 0; i < 100; i++) {
                long first = random.nextLong();
                long second = random.nextLong();
                for (int key = 0; key < 2; key++) {
                    Checks.due("first half", x.cipher(key, first, second, true),
                            model.cipher(key, first, second, true));
                    Checks.due("second half", x.cipher(key, first, second, false),
                            model.cipher(key, first, second, false));
                }
            }
        }
    }

    private static void count() {
        Desk x = new Desk();
        for (int version = 1; version <= 10; version++) {
            x.close(0);
        }
        x.put(0, 1, 5);
        x.put(0, 2, 6);
        x.close(0);
        x.put(0, 1, 7);
        x.deposit(0);
        x.deposit(0);
        x.deposit(0);
        x.query(0, 10);
        x.query(0, 11);
        x.query(0, 9);
        x.query(0, 8);
        x.setKeyByte(0, 31, 2);
        x.setKeyByte(0, 32, 3);
        int[] counts = {11, 3, 1, 2, 3, 4, 1, 122};
        for (int what = 0; what < counts.length; what++) {
            Checks.due("count(0, " + what + ")", x.count(0, what), counts[what]);
        }
    }
}
