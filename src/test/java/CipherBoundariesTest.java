/** The boundary cases that the document names for the cipher: promise 15, and the term THE CIPHER. */
public final class CipherBoundariesTest {
    private static final long[] EXTREMES = {0, 1, -1, Long.MIN_VALUE, Long.MAX_VALUE, 1L << 32, 0xFFFFFFFFL};

    private static final Model MODEL = new Model();

    public static void main(String[] args) {
        Checks.test("15: key is not 0 or 1", () -> {
            for (int key : Checks.NO_SERVERS) {
                Checks.refused("cipher(" + key + ", 0, 0, true)", Checks.ARGUMENT,
                        () -> new Desk().cipher(key, 0, 0, true));
                Checks.refused("cipher(" + key + ", -1, -1, false)", Checks.ARGUMENT,
                        () -> new Desk().cipher(key, -1, -1, false));
            }
        });
        Checks.test("15: the first and the last key, both halves, as the document's tests have them", () -> {
            Desk x = new Desk();
            Checks.due("cipher", x.cipher(0, 0, 0, true), 2254882323619322909L);
            Checks.due("cipher", x.cipher(1, 0x0123456789ABCDEFL, ~0x0123456789ABCDEFL, false), 6149358872679774770L);
        });
        Checks.test("15: the smallest and largest numbers", () -> {
            for (long first : EXTREMES) {
                Desk x = new Desk();
                for (long second : EXTREMES) {
                    sameAsTheModel(x, first, second);
                }
            }
        });
        Checks.test("15: each bit of a block alone", () -> {
            Desk x = new Desk();
            Desk y = new Desk();
            for (int bit = 0; bit < 64; bit++) {
                sameAsTheModel(x, 1L << bit, 0);
                sameAsTheModel(y, 0, 1L << bit);
            }
        });
        Checks.test("15: each byte, 0 and its inverse 0 too, at each place of a block", () -> {
            for (int place = 0; place < 8; place++) {
                for (long b = 0; b < 256; b++) {
                    Desk x = new Desk();
                    sameAsTheModel(x, b << (8 * place), 0x0102030405060708L);
                    sameAsTheModel(x, 0x0807060504030201L, b << (8 * place));
                }
            }
        });
        Checks.test("15: each fixed key itself as the block, so that every byte is 0 before the rounds", () -> {
            Desk x = new Desk();
            sameAsTheModel(x, 0x0111213141516171L, 0x8191A1B1C1D1E1F1L);
            sameAsTheModel(x, 0x0211202F3E4D5C6BL, 0x7A8998A7B6C5D4E3L);
        });
        Checks.test("THE CIPHER: S, ROUND KEYS, ROWS and COLUMNS by the document's own words", () -> {
            for (int key = 0; key < 2; key++) {
                CipherWords words = new CipherWords(key);
                Desk x = new Desk();
                for (long n = -8; n < 8; n++) {
                    long first = n * 0x0123456789ABCDEFL;
                    long second = n * 0x0FEDCBA987654321L + 1;
                    Checks.due("first half", x.cipher(key, first, second, true), words.half(first, second, true));
                    Checks.due("second half", x.cipher(key, first, second, false), words.half(first, second, false));
                }
            }
        });
        Checks.test("15: keys that are not good do not hinder, and no call before does", () -> {
            Desk x = new Desk();
            x.setKeyByte(0, 32, 255);
            x.setKeyByte(1, 31, 1);
            sameAsTheModel(x, 5, 6);
            x.makeKeys(1, 2, 3, 4, 5, 6);
            x.count(0, 7);
            sameAsTheModel(x, 5, 6);
        });
        Checks.end();
    }

    private static void sameAsTheModel(Desk x, long first, long second) {
        for (int key = 0; key < 2; key++) {
            Checks.due("first half with key " + key + " of " + first + ", " + second,
                    x.cipher(key, first, second, true), MODEL.cipher(key, first, second, true));
            Checks.due("second half with key " + key + " of " + first + ", " + second,
                    x.cipher(key, first, second, false), MODEL.cipher(key, first, second, false));
        }
    }
}
