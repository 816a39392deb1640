/**
 * The cipher as the document tells it, word by word and bit by bit: the model takes the Java
 * library's for "the known one", and this is what tells that they are the same.
 */
final class CipherWords {
    private static final int[] FACTORS = {0x10, 0x0F};
    private static final int[] STARTS = {1, 2};

    private final int[][] words = new int[44][4];

    CipherWords(int fixedKey) {
        for (int k = 0; k < 16; k++) {
            words[k / 4][k % 4] = (FACTORS[fixedKey] * k + STARTS[fixedKey]) % 256;
        }
        for (int i = 4; i < 44; i++) {
            int[] before = i % 4 == 0 ? turned(words[i - 1], i / 4 - 1) : words[i - 1];
            for (int b = 0; b < 4; b++) {
                words[i][b] = words[i - 4][b] ^ before[b];
            }
        }
    }

    private static int[] turned(int[] word, int power) {
        int[] out = {s(word[1]), s(word[2]), s(word[3]), s(word[0])};
        int xToThePower = 1;
        for (int n = 0; n < power; n++) {
            xToThePower = times(xToThePower, 2);
        }
        out[0] ^= xToThePower;
        return out;
    }

    /** Of polynomials over bits, modulo x^8 + x^4 + x^3 + x + 1. */
    private static int times(int a, int b) {
        int product = 0;
        for (int bit = 0; bit < 8; bit++) {
            product ^= (b >> bit & 1) * (a << bit);
        }
        for (int bit = 14; bit >= 8; bit--) {
            product ^= (product >> bit & 1) * (0b1_0001_1011 << (bit - 8));
        }
        return product;
    }

    private static int s(int b) {
        int c = 0;
        for (int n = 1; n < 256; n++) {
            c = times(b, n) == 1 ? n : c;
        }
        int out = 0;
        for (int i = 0; i < 8; i++) {
            int bit = 0x63 >> i & 1;
            for (int step : new int[] {0, 4, 5, 6, 7}) {
                bit ^= c >> ((i + step) % 8) & 1;
            }
            out |= bit << i;
        }
        return out;
    }

    long half(long first, long second, boolean upper) {
        int[] block = new int[16];
        for (int i = 0; i < 16; i++) {
            block[i] = (int) ((i < 8 ? first : second) >>> (56 - 8 * (i % 8))) & 0xFF;
        }
        addWords(block, 0);
        for (int r = 1; r <= 10; r++) {
            block = rows(block);
            block = r == 10 ? block : columns(block);
            addWords(block, r);
        }
        long half = 0;
        for (int i = 0; i < 8; i++) {
            half = half * 256 + block[upper ? i : 8 + i];
        }
        return half;
    }

    private void addWords(int[] block, int r) {
        for (int i = 0; i < 16; i++) {
            block[i] ^= words[4 * r + i / 4][i % 4];
        }
    }

    private static int[] rows(int[] block) {
        int[] out = new int[16];
        for (int c = 0; c < 4; c++) {
            for (int k = 0; k < 4; k++) {
                out[4 * c + k] = s(block[4 * ((c + k) % 4) + k]);
            }
        }
        return out;
    }

    private static int[] columns(int[] block) {
        int[] out = new int[16];
        for (int i = 0; i < 16; i++) {
            int four = i - i % 4;
            out[i] = times(2, block[i]) ^ times(3, block[four + (i + 1) % 4])
                    ^ block[four + (i + 2) % 4] ^ block[four + (i + 3) % 4];
        }
        return out;
    }
}
