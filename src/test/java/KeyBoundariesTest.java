import java.util.ArrayList;
import java.util.List;
import java.util.function.Consumer;

/**
 * The boundary cases that the document names for keys: promises 1 and 4 to 8, and the terms GOOD,
 * EXPANDING and MAKING. That refused calls change nothing is tested in RefusalsTest.
 */
public final class KeyBoundariesTest {
    private static final long[] EXTREMES = {0, 1, -1, Long.MIN_VALUE, Long.MAX_VALUE, 1L << 32, 0xFFFFFFFFL};
    private static final int[] EDGES = {0, 1, 127, 128, 254, 255};

    public static void main(String[] args) {
        newObject();
        makeKeys();
        keyByte();
        setKeyByte();
        good();
        choice();
        share();
        expanding();
        Checks.end();
    }

    private static void newObject() {
        Checks.test("1: all bytes of both keys are 0 at first", () -> {
            Desk x = new Desk();
            for (int i = 0; i < 160; i++) {
                Checks.due("keyByte(0, " + i + ")", x.keyByte(0, i), 0);
                Checks.due("keyByte(1, " + i + ")", x.keyByte(1, i), 0);
            }
        });
        Checks.test("1: both keys are good at first, and expanded from blocks of 0", () -> {
            Checks.due("count(0, 6)", new Desk().count(0, 6), 1);
            Checks.due("count(1, 6)", new Desk().count(1, 6), 1);
            asInTheModel(0, x -> { });
            asInTheModel(1, x -> { });
        });
    }

    /** Choice and share of each place by a key, after a run of calls. */
    private static void asInTheModel(int key, Consumer<Face> run) {
        Face due = new Model();
        run.accept(due);
        Desk forChoices = new Desk();
        run.accept(forChoices);
        Desk forShares = new Desk();
        run.accept(forShares);
        for (int i = 0; i < 256; i++) {
            Checks.due("choice(" + key + ", " + i + ")", forChoices.choice(key, i), due.choice(key, i));
            Checks.due("share(" + key + ", " + i + ")", forShares.share(key, i), due.share(key, i));
        }
    }

    private static void sameBytes(String what, Face got, Face want) {
        for (int i = 0; i < 160; i++) {
            Checks.due(what + ": byte " + i + " of key 0", got.keyByte(0, i), want.keyByte(0, i));
            Checks.due(what + ": byte " + i + " of key 1", got.keyByte(1, i), want.keyByte(1, i));
        }
    }

    private static void makingIsAsInTheModel(String what, Consumer<Face> run) {
        Desk x = new Desk();
        Model model = new Model();
        run.accept(x);
        run.accept(model);
        sameBytes(what, x, model);
        Checks.due(what + ": key 0 is good", x.count(0, 6), 1);
        Checks.due(what + ": key 1 is good", x.count(1, 6), 1);
    }

    private static void makeKeys() {
        Checks.test("4: keys are made for each place from 0 to 255", () -> {
            for (int n = 0; n < 256; n++) {
                int a = n;
                makingIsAsInTheModel("place " + a, x -> x.makeKeys(a, 7 * a, -a, 1L << a, ~a, 5 - a));
            }
        });
        Checks.test("4: a is not 0 .. 255", () -> {
            for (int a : Checks.NO_PLACES) {
                Checks.refused("makeKeys(" + a + ", ..)", Checks.ARGUMENT,
                        () -> new Desk().makeKeys(a, 1, 2, 3, 4, 5));
            }
        });
        Checks.test("4: choices and shares differ at place a alone, for the first and last places", () -> {
            for (int a : EDGES) {
                Desk forChoices = new Desk();
                Desk forShares = new Desk();
                // Each desk has made the keys; two calls a place for 255 places are left.
                forChoices.makeKeys(a, 1, 2, 3, 4, Long.MIN_VALUE);
                forShares.makeKeys(a, 1, 2, 3, 4, Long.MIN_VALUE);
                for (int n = 0; n < 255; n++) {
                    int i = a == 255 ? 255 - n : n;
                    Checks.due("choices at " + i, forChoices.choice(0, i) != forChoices.choice(1, i), i == a);
                    Checks.due("shares at " + i, forShares.share(0, i) ^ forShares.share(1, i),
                            i == a ? Long.MIN_VALUE : 0);
                }
            }
        });
        Checks.test("4: the smallest and largest roots and messages", () -> {
            for (long v : EXTREMES) {
                for (int a : new int[] {0, 255}) {
                    makingIsAsInTheModel("first of 0 is " + v, x -> x.makeKeys(a, v, 2, 3, 4, 5));
                    makingIsAsInTheModel("second of 0 is " + v, x -> x.makeKeys(a, 1, v, 3, 4, 5));
                    makingIsAsInTheModel("first of 1 is " + v, x -> x.makeKeys(a, 1, 2, v, 4, 5));
                    makingIsAsInTheModel("second of 1 is " + v, x -> x.makeKeys(a, 1, 2, 3, v, 5));
                    makingIsAsInTheModel("the message is " + v, x -> x.makeKeys(a, 1, 2, 3, 4, v));
                    makingIsAsInTheModel("all are " + v, x -> x.makeKeys(a, v, v, v, v, v));
                }
            }
        });
        Checks.test("4: the roots are taken whole, their lowest bits too", () -> {
            Desk x = new Desk();
            x.makeKeys(3, -1, -1, -1, -1, 0);
            for (int i = 0; i < 16; i++) {
                Checks.due("root byte of key 0", x.keyByte(0, i), 255);
                Checks.due("root byte of key 1", x.keyByte(1, i), 255);
            }
        });
        Checks.test("4: equal roots: all Z are 0, all U y too, all U x 1, and V is the message", () -> {
            for (int a : EDGES) {
                Desk x = new Desk();
                x.makeKeys(a, 9, 8, 9, 8, -1);
                for (int level = 0; level < 8; level++) {
                    for (int i = 0; i < 16; i++) {
                        Checks.due("Z", x.keyByte(1, 16 + 17 * level + i), 0);
                    }
                    Checks.due("U", x.keyByte(0, 32 + 17 * level), 1 << (a >> (7 - level) & 1));
                }
                for (int i = 152; i < 160; i++) {
                    Checks.due("V", x.keyByte(0, i), 255);
                }
            }
        });
        Checks.test("4: a key that is not good is good when it has been made", () -> {
            for (int key = 0; key < 2; key++) {
                Desk x = new Desk();
                for (int i = 0; i < 160; i++) {
                    x.setKeyByte(key, i, 255);
                }
                Checks.due("good before", x.count(key, 6), 0);
                x.makeKeys(255, 1, 2, 3, 4, 5);
                Checks.due("good", x.count(key, 6), 1);
                Model model = new Model();
                model.makeKeys(255, 1, 2, 3, 4, 5);
                for (int i = 0; i < 160; i++) {
                    Checks.due("byte " + i, x.keyByte(key, i), model.keyByte(key, i));
                }
                Checks.due("share", x.share(key, 255), model.share(key, 255));
            }
        });
        Checks.test("4: keys made again have nothing of those before", () -> {
            makingIsAsInTheModel("made twice", x -> {
                x.makeKeys(255, -1, -1, 0, 0, -1);
                x.count(0, 7);
                x.count(1, 7);
                x.makeKeys(0, 1, 2, 3, 4, 5);
            });
            for (int n = 0; n < 2; n++) {
                int key = n;
                asInTheModel(key, x -> {
                    x.makeKeys(255, -1, -1, 0, 0, -1);
                    x.count(key, 7);
                    x.makeKeys(0, 1, 2, 3, 4, 5);
                });
            }
        });
    }

    private static void keyByte() {
        Checks.test("5: the first and the last byte of both keys", () -> {
            Desk x = new Desk();
            x.setKeyByte(0, 0, 11);
            x.setKeyByte(0, 159, 12);
            x.setKeyByte(1, 0, 13);
            x.setKeyByte(1, 159, 14);
            Checks.due("keyByte(0, 0)", x.keyByte(0, 0), 11);
            Checks.due("keyByte(0, 159)", x.keyByte(0, 159), 12);
            Checks.due("keyByte(1, 0)", x.keyByte(1, 0), 13);
            Checks.due("keyByte(1, 159)", x.keyByte(1, 159), 14);
        });
        Checks.test("5: there is no such byte", () -> {
            for (int i : Checks.NO_KEY_BYTES) {
                Checks.refused("keyByte(0, " + i + ")", Checks.INDEX, () -> new Desk().keyByte(0, i));
                Checks.refused("keyByte(1, " + i + ")", Checks.INDEX, () -> new Desk().keyByte(1, i));
            }
        });
        Checks.test("5: there is no such key", () -> {
            for (int key : Checks.NO_SERVERS) {
                for (int i : new int[] {0, 159, -1, 160}) {
                    Checks.refused("keyByte(" + key + ", " + i + ")", Checks.INDEX, () -> new Desk().keyByte(key, i));
                }
            }
        });
        Checks.test("5: bytes go from 0 to 255", () -> {
            Desk x = new Desk();
            for (int b = 0; b < 256; b++) {
                x.setKeyByte(0, 5, b);
                Checks.due("keyByte", x.keyByte(0, 5), b);
            }
        });
        Checks.test("5: a key's bytes are answered though it is not good", () -> {
            Desk x = new Desk();
            x.setKeyByte(1, 32, 255);
            Checks.due("keyByte", x.keyByte(1, 32), 255);
        });
        Checks.test("5: a made key's root is at 0, its V at 152, the highest byte first", () -> {
            Desk x = new Desk();
            x.makeKeys(0, 0x0102030405060708L, 0x090A0B0C0D0E0F10L, 0x0102030405060708L, 0x090A0B0C0D0E0F10L,
                    0x1112131415161718L);
            for (int i = 0; i < 16; i++) {
                Checks.due("root byte " + i, x.keyByte(1, i), i + 1);
            }
            for (int i = 0; i < 8; i++) {
                Checks.due("V's byte " + i, x.keyByte(1, 152 + i), 0x11 + i);
            }
        });
    }

    private static void setKeyByte() {
        Checks.test("6: there is no such byte", () -> {
            for (int i : Checks.NO_KEY_BYTES) {
                Checks.refused("setKeyByte(0, " + i + ", 1)", Checks.INDEX, () -> new Desk().setKeyByte(0, i, 1));
                Checks.refused("setKeyByte(1, " + i + ", 1)", Checks.INDEX, () -> new Desk().setKeyByte(1, i, 1));
            }
        });
        Checks.test("6: there is no such key", () -> {
            for (int key : Checks.NO_SERVERS) {
                for (int i : new int[] {0, 159, -1, 160}) {
                    Checks.refused("setKeyByte(" + key + ", " + i + ", 1)", Checks.INDEX,
                            () -> new Desk().setKeyByte(key, i, 1));
                }
            }
        });
        Checks.test("6: the lowest eight bits of b, whatever b is", () -> {
            int[] given = {0, 255, 256, 257, 511, 512, -1, -2, -128, -255, -256, -257, 0x7FFFFF80, 0x12345678,
                Integer.MIN_VALUE, Integer.MAX_VALUE};
            int[] kept = {0, 255, 0, 1, 255, 0, 255, 254, 128, 1, 0, 255, 0x80, 0x78, 0, 255};
            for (int i : new int[] {0, 32, 159}) {
                Desk x = new Desk();
                for (int n = 0; n < given.length; n++) {
                    x.setKeyByte(1, i, given[n]);
                    Checks.due("byte after " + given[n], x.keyByte(1, i), kept[n]);
                }
            }
        });
        Checks.test("6: it alone is changed", () -> {
            for (int i = 0; i < 160; i++) {
                Desk x = new Desk();
                x.setKeyByte(0, i, 77);
                for (int other = 0; other < 160; other++) {
                    Checks.due("key 0", x.keyByte(0, other), other == i ? 77 : 0);
                    Checks.due("key 1", x.keyByte(1, other), 0);
                }
            }
        });
        Checks.test("6: what was expanded before is not answered after", () -> {
            for (int n = 0; n < 160; n++) {
                int i = n;
                int b = isFlags(i) ? 1 : 0xF0;
                asInTheModel(1, x -> {
                    x.makeKeys(77, 5, 6, 7, 8, 9);
                    x.count(1, 7);
                    x.setKeyByte(1, i, x.keyByte(1, i) ^ b);
                });
            }
        });
        Checks.test("6: a change back brings the old expansion back", () -> {
            for (int i = 0; i < 160; i++) {
                Desk x = new Desk();
                x.makeKeys(200, 5, 6, 7, 8, 9);
                long share = x.share(0, 33);
                int old = x.keyByte(0, i);
                x.setKeyByte(0, i, ~old);
                Checks.answerOf(() -> x.share(0, 33));
                x.setKeyByte(0, i, old);
                Checks.due("share by byte " + i, x.share(0, 33), share);
            }
        });
    }

    private static boolean isFlags(int i) {
        return i >= 16 && i < 152 && (i - 16) % 17 == 16;
    }

    private static boolean isLastOfZ(int i) {
        return i >= 16 && i < 152 && (i - 16) % 17 == 15;
    }

    private static boolean hinders(int i, int bit) {
        return isFlags(i) ? bit >= 2 : isLastOfZ(i) && bit == 0;
    }

    private static Desk withMadeKeys() {
        Desk x = new Desk();
        x.makeKeys(100, -9, 8, 7, -6, 5);
        return x;
    }

    private static void notGood(String why, Desk x, int key) {
        Checks.due(why + ": count 6", x.count(key, 6), 0);
        Checks.due(why + ": count 7", x.count(key, 7), BlindShelf.NONE);
        for (int i : EDGES) {
            Checks.refused(why + ": choice(" + key + ", " + i + ")", Checks.STATE, () -> x.choice(key, i));
            Checks.refused(why + ": share(" + key + ", " + i + ")", Checks.STATE, () -> x.share(key, i));
        }
        Checks.refused(why + ": query", Checks.STATE, () -> x.query(key, 0));
        Checks.refused(why + ": deposit", Checks.STATE, () -> x.deposit(key));
    }

    private static void isGood(String why, Desk x, int key) {
        Checks.due(why + ": count 6", x.count(key, 6), 1);
        Checks.taken(why + ": choice", () -> x.choice(key, 255));
        Checks.taken(why + ": share", () -> x.share(key, 0));
        Checks.taken(why + ": query", () -> x.query(key, 0));
        Checks.taken(why + ": deposit", () -> x.deposit(key));
    }

    private static void good() {
        for (int level = 0; level < 8; level++) {
            for (int bit = 2; bit < 8; bit++) {
                int at = 32 + 17 * level;
                notGoodByBit("GOOD: not by bit " + bit + " of level " + level + "'s byte", at, bit);
            }
            notGoodByBit("GOOD: not by the lowest bit of level " + level + "'s Z", 31 + 17 * level, 0);
        }
        Checks.test("GOOD: whatever the other bits are", () -> {
            List<int[]> bits = new ArrayList<>();
            for (int n = 0; n < 160 * 8; n++) {
                if (!hinders(n / 8, n % 8)) {
                    bits.add(new int[] {n / 8, n % 8});
                }
            }
            Checks.due("bits that do not hinder", bits.size(), 160 * 8 - 8 * 7);
            for (int key = 0; key < 2; key++) {
                for (int[] one : bits) {
                    Desk x = withMadeKeys();
                    x.setKeyByte(key, one[0], x.keyByte(key, one[0]) ^ 1 << one[1]);
                    isGood("bit " + one[1] + " of byte " + one[0], x, key);
                }
            }
        });
        Checks.test("GOOD: all bits that do not hinder are 1", () -> {
            for (int n = 0; n < 2; n++) {
                int key = n;
                Consumer<Face> run = x -> {
                    for (int i = 0; i < 160; i++) {
                        x.setKeyByte(key, i, isFlags(i) ? 3 : isLastOfZ(i) ? 0xFE : 0xFF);
                    }
                };
                asInTheModel(key, run);
                Desk x = new Desk();
                run.accept(x);
                isGood("all ones", x, key);
            }
        });
        Checks.test("GOOD: not when all bits are 1", () -> {
            for (int key = 0; key < 2; key++) {
                Desk x = new Desk();
                for (int i = 0; i < 160; i++) {
                    x.setKeyByte(key, i, -1);
                }
                notGood("all ones", x, key);
            }
        });
        Checks.test("GOOD: 3 is the last byte of a level that is, 4 the first that is not", () -> {
            for (int level = 0; level < 8; level++) {
                Desk x = new Desk();
                for (int b = 0; b < 256; b++) {
                    x.setKeyByte(1, 32 + 17 * level, b);
                    Checks.due("count(1, 6) with " + b, x.count(1, 6), b <= 3 ? 1 : 0);
                }
            }
        });
        Checks.test("GOOD: not as long as one of two bits hinders", () -> {
            Desk x = withMadeKeys();
            x.setKeyByte(0, 31, 1);
            x.setKeyByte(0, 151, 4);
            notGood("both", x, 0);
            x.setKeyByte(0, 31, 0);
            notGood("the later one", x, 0);
            x.setKeyByte(0, 31, 1);
            x.setKeyByte(0, 151, 0);
            notGood("the earlier one", x, 0);
            x.setKeyByte(0, 31, 0);
            isGood("neither", x, 0);
        });
        Checks.test("GOOD: both keys are not", () -> {
            Desk x = withMadeKeys();
            x.setKeyByte(0, 31, 255);
            x.setKeyByte(1, 151, 128);
            notGood("key 0", x, 0);
            notGood("key 1", x, 1);
        });
    }

    private static void notGoodByBit(String name, int at, int bit) {
        Checks.test(name, () -> {
            for (int key = 0; key < 2; key++) {
                Desk x = withMadeKeys();
                long share = x.share(key, 255);
                int old = x.keyByte(key, at);
                x.setKeyByte(key, at, old | 1 << bit);
                notGood("key " + key, x, key);
                isGood("the other key", x, 1 - key);
                x.setKeyByte(key, at, old);
                isGood("set back", x, key);
                Checks.due("the share again", x.share(key, 255), share);
                Desk zeros = new Desk();
                zeros.setKeyByte(key, at, 1 << bit);
                notGood("key " + key + " of zeros", zeros, key);
            }
        });
    }

    private static void choice() {
        Checks.test("7: the first and the last key and place are taken", () -> {
            Desk x = withMadeKeys();
            Model model = new Model();
            model.makeKeys(100, -9, 8, 7, -6, 5);
            for (int i : EDGES) {
                Checks.due("choice(0, " + i + ")", x.choice(0, i), model.choice(0, i));
                Checks.due("choice(1, " + i + ")", x.choice(1, i), model.choice(1, i));
            }
        });
        Checks.test("7: there is no such key", () -> {
            for (int key : Checks.NO_SERVERS) {
                for (int i : new int[] {0, 255, -1, 256}) {
                    Checks.refused("choice(" + key + ", " + i + ")", Checks.INDEX, () -> new Desk().choice(key, i));
                }
            }
        });
        Checks.test("7: there is no such place", () -> {
            for (int i : Checks.NO_PLACES) {
                Checks.refused("choice(0, " + i + ")", Checks.INDEX, () -> new Desk().choice(0, i));
                Checks.refused("choice(1, " + i + ")", Checks.INDEX, () -> new Desk().choice(1, i));
            }
        });
        Checks.test("7: no such key or place comes before a key that is not good", () -> {
            Desk x = withNeitherKeyGood();
            for (int key : Checks.NO_SERVERS) {
                Checks.refused("choice(" + key + ", 0)", Checks.INDEX, () -> x.choice(key, 0));
            }
            for (int i : Checks.NO_PLACES) {
                Checks.refused("choice(0, " + i + ")", Checks.INDEX, () -> x.choice(0, i));
                Checks.refused("choice(1, " + i + ")", Checks.INDEX, () -> x.choice(1, i));
            }
        });
    }

    private static Desk withNeitherKeyGood() {
        Desk x = withMadeKeys();
        x.setKeyByte(0, 32, 4);
        x.setKeyByte(1, 150, 1);
        return x;
    }

    private static void share() {
        Checks.test("8: the first and the last key and place are taken", () -> {
            Desk x = withMadeKeys();
            Model model = new Model();
            model.makeKeys(100, -9, 8, 7, -6, 5);
            for (int i : EDGES) {
                Checks.due("share(0, " + i + ")", x.share(0, i), model.share(0, i));
                Checks.due("share(1, " + i + ")", x.share(1, i), model.share(1, i));
            }
        });
        Checks.test("8: there is no such key", () -> {
            for (int key : Checks.NO_SERVERS) {
                for (int i : new int[] {0, 255, -1, 256}) {
                    Checks.refused("share(" + key + ", " + i + ")", Checks.INDEX, () -> new Desk().share(key, i));
                }
            }
        });
        Checks.test("8: there is no such place", () -> {
            for (int i : Checks.NO_PLACES) {
                Checks.refused("share(0, " + i + ")", Checks.INDEX, () -> new Desk().share(0, i));
                Checks.refused("share(1, " + i + ")", Checks.INDEX, () -> new Desk().share(1, i));
            }
        });
        Checks.test("8: no such key or place comes before a key that is not good", () -> {
            Desk x = withNeitherKeyGood();
            for (int key : Checks.NO_SERVERS) {
                Checks.refused("share(" + key + ", 0)", Checks.INDEX, () -> x.share(key, 0));
            }
            for (int i : Checks.NO_PLACES) {
                Checks.refused("share(0, " + i + ")", Checks.INDEX, () -> x.share(0, i));
                Checks.refused("share(1, " + i + ")", Checks.INDEX, () -> x.share(1, i));
            }
        });
        Checks.test("8: V is in the shares of the chosen places alone, all of its 64 bits", () -> {
            for (int key = 0; key < 2; key++) {
                Desk without = new Desk();
                Desk with = new Desk();
                for (int i = 152; i < 160; i++) {
                    with.setKeyByte(key, i, 255);
                }
                for (int i = 0; i < 250; i++) {
                    long v = without.choice(key, i) ? -1L : 0L;
                    Checks.due("share(" + key + ", " + i + ")", with.share(key, i), without.share(key, i) ^ v);
                }
            }
        });
    }

    /** By the class's own cipher, from a root of 0: the first half of the last block, and its bit. */
    private static long[] doubledDown(Desk x, int place, boolean bitTakenOut) {
        long first = 0;
        long second = 0;
        long bit = 0;
        for (int level = 7; level >= 0; level--) {
            int half = place >> level & 1;
            long upper = x.cipher(half, first, second, true);
            long lower = x.cipher(half, first, second, false);
            first ^= upper;
            second ^= lower;
            bit = second & 1;
            second ^= bitTakenOut ? bit : 0;
        }
        return new long[] {first, bit};
    }

    private static void expanding() {
        Checks.test("DOUBLING: the bit of a half is the lowest of its last byte, which is 0 in it then", () -> {
            for (int place : EDGES) {
                Desk x = new Desk();
                // A new object's Z, U and V are 0, so that a walk is nothing but doubling.
                long[] due = doubledDown(x, place, true);
                Checks.due("share(0, " + place + ")", x.share(0, place), due[0]);
                Checks.due("choice(0, " + place + ")", x.choice(0, place), due[1] == 1);
                Checks.due("share with the bits left in", x.share(0, place) != doubledDown(x, place, false)[0], true);
            }
        });
        Checks.test("EXPANDING: bits 0 and 1 of a level's byte are U0 and U1, in each level", () -> {
            for (int n = 0; n < 8 * 4; n++) {
                int at = 32 + 17 * (n / 4);
                int flags = n % 4;
                asInTheModel(0, x -> x.setKeyByte(0, at, flags));
                asInTheModel(1, x -> x.setKeyByte(1, at, flags));
            }
        });
        Checks.test("EXPANDING: the smallest and largest roots", () -> {
            for (long v : EXTREMES) {
                asInTheModel(0, x -> x.makeKeys(0, v, v, 1, 1, v));
                asInTheModel(1, x -> x.makeKeys(255, 1, 1, v, v, v));
            }
        });
        Checks.test("EXPANDING: a place's answer does not hang on those asked before", () -> {
            for (int i = 0; i < 256; i++) {
                Desk alone = withMadeKeys();
                Desk later = withMadeKeys();
                later.share(1, 255 - i);
                later.choice(0, i ^ 1);
                later.count(1, 7);
                Checks.due("share(1, " + i + ")", later.share(1, i), alone.share(1, i));
                Checks.due("choice(0, " + i + ")", later.choice(0, i), alone.choice(0, i));
            }
        });
    }
}
