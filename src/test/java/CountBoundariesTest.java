/** The boundary cases that the document names for count: promise 16. */
public final class CountBoundariesTest {
    private static final int NEWEST = 0;
    private static final int OLDEST = 1;
    private static final int OPEN_CHANGES = 2;
    private static final int CLOSED_CHANGES = 3;
    private static final int DEPOSITS = 4;
    private static final int QUERIES = 5;
    private static final int GOOD = 6;
    private static final int CHOSEN = 7;

    public static void main(String[] args) {
        others();
        versions();
        changes();
        calls();
        keys();
        Checks.end();
    }

    private static void others() {
        Checks.test("16: NONE is -1", () -> Checks.due("NONE", BlindShelf.NONE, -1));
        Checks.test("16: 0 and 7 are the first and the last that are counted, NONE for others", () -> {
            for (int server = 0; server < 2; server++) {
                Desk x = busy();
                for (int what : new int[] {-1, 8, 9, -8, 16, 256, Integer.MIN_VALUE, Integer.MAX_VALUE}) {
                    Checks.due("count(" + server + ", " + what + ")", x.count(server, what), BlindShelf.NONE);
                }
                Checks.due("count(" + server + ", 0)", x.count(server, 0), 2);
                Checks.due("count(" + server + ", 7) is a number", x.count(server, 7) > 0, true);
            }
        });
        Checks.test("16: NONE for servers that there are not", () -> {
            for (int server : new int[] {-1, 2, 3, Integer.MIN_VALUE, Integer.MAX_VALUE}) {
                Desk x = busy();
                for (int what = -1; what <= 8; what++) {
                    Checks.due("count(" + server + ", " + what + ")", x.count(server, what), BlindShelf.NONE);
                }
            }
        });
    }

    /** Every number that is counted is other than NONE, and most are not 0. */
    private static Desk busy() {
        Desk x = new Desk();
        for (int server = 0; server < 2; server++) {
            x.close(server);
            x.put(server, 1, 2);
            x.close(server);
            x.put(server, 1, 3);
            x.deposit(server);
            x.query(server, 2);
        }
        return x;
    }

    private static void versions() {
        Checks.test("16: the newest and the oldest version, from none closed on to the nine held and more", () -> {
            for (int server = 0; server < 2; server++) {
                Desk x = new Desk();
                for (int newest = 0; newest <= 40; newest++) {
                    Checks.due("newest", x.count(server, NEWEST), newest);
                    Checks.due("oldest", x.count(server, OLDEST), newest <= 8 ? 0 : newest - 8);
                    Checks.due("the other's newest", x.count(1 - server, NEWEST), 0);
                    Checks.due("the other's oldest", x.count(1 - server, OLDEST), 0);
                    x.close(server);
                }
            }
        });
    }

    private static void changes() {
        Checks.test("16: changes of the open batch, from none to all 256 records and back to none", () -> {
            for (int n = 0; n < 2; n++) {
                int server = n;
                Desk up = new Desk();
                for (int i = 0; i < 256; i++) {
                    Checks.due("changes", up.count(server, OPEN_CHANGES), i);
                    up.put(server, i, i - 300);
                }
                Desk down = new Desk();
                for (int i = 0; i < 256; i++) {
                    down.put(server, i, i - 300);
                }
                Checks.due("changes of all", down.count(server, OPEN_CHANGES), 256);
                Checks.due("changes of the other", down.count(1 - server, OPEN_CHANGES), 0);
                for (int i = 0; i < 100; i++) {
                    down.put(server, 255 - i, 0);
                    Checks.due("changes", down.count(server, OPEN_CHANGES), 255 - i);
                }
            }
        });
        Checks.test("16: a change to what the record is in the newest version is none", () -> {
            Desk x = new Desk();
            x.put(0, 5, 0);
            Checks.due("0 to 0", x.count(0, OPEN_CHANGES), 0);
            x.put(0, 5, 9);
            x.close(0);
            x.put(0, 5, 9);
            Checks.due("9 to 9", x.count(0, OPEN_CHANGES), 0);
            x.put(0, 5, 0);
            Checks.due("9 to what it was in version 0", x.count(0, OPEN_CHANGES), 1);
            x.put(0, 5, 9);
            Checks.due("changed back", x.count(0, OPEN_CHANGES), 0);
        });
        Checks.test("16: a record that is changed twice is one", () -> {
            Desk x = new Desk();
            x.put(0, 5, 1);
            x.put(0, 5, 2);
            Checks.due("changes", x.count(0, OPEN_CHANGES), 1);
            x.close(0);
            Checks.due("changes of the closing", x.count(0, CLOSED_CHANGES), 1);
        });
        Checks.test("16: a change of the highest or the lowest bit alone is one", () -> {
            Desk x = new Desk();
            x.put(0, 5, Long.MIN_VALUE);
            x.put(0, 6, 1);
            x.put(0, 7, 1L << 32);
            Checks.due("changes", x.count(0, OPEN_CHANGES), 3);
        });
        Checks.test("16: a closing empties the batch", () -> {
            Desk x = new Desk();
            x.put(1, 0, 5);
            x.put(1, 255, 5);
            x.close(1);
            Checks.due("changes", x.count(1, OPEN_CHANGES), 0);
        });
        Checks.test("16: changes of the latest closing: none before any, and of an empty batch", () -> {
            Desk x = new Desk();
            Checks.due("before any", x.count(0, CLOSED_CHANGES), 0);
            x.put(0, 1, 5);
            Checks.due("before any, batch open", x.count(0, CLOSED_CHANGES), 0);
            x.close(0);
            Checks.due("of one change", x.count(0, CLOSED_CHANGES), 1);
            x.put(0, 2, 5);
            x.put(0, 3, 5);
            Checks.due("the next batch open", x.count(0, CLOSED_CHANGES), 1);
            x.close(0);
            Checks.due("of two changes", x.count(0, CLOSED_CHANGES), 2);
            x.close(0);
            Checks.due("of an empty batch", x.count(0, CLOSED_CHANGES), 0);
            Checks.due("of the other server", x.count(1, CLOSED_CHANGES), 0);
        });
        Checks.test("16: changes of the latest closing: none of a batch that changes back, and all 256", () -> {
            Desk x = new Desk();
            x.put(1, 7, 5);
            x.put(1, 7, 0);
            x.close(1);
            Checks.due("of a batch that changes back", x.count(1, CLOSED_CHANGES), 0);
            for (int i = 0; i < 256; i++) {
                x.put(1, i, -1);
            }
            x.close(1);
            Checks.due("of all", x.count(1, CLOSED_CHANGES), 256);
        });
        Checks.test("16: changes are held against the newest version, in each of the nine rows and behind", () -> {
            Desk x = new Desk();
            for (int version = 1; version <= 30; version++) {
                x.put(0, version % 2, version);
                x.put(0, 9, version / 3);
                int changes = version % 3 == 0 ? 2 : 1;
                Checks.due("open in " + version, x.count(0, OPEN_CHANGES), changes);
                x.close(0);
                Checks.due("closed by " + version, x.count(0, CLOSED_CHANGES), changes);
            }
        });
    }

    private static void calls() {
        Checks.test("16: deposits: none at first, refused ones not counted", () -> {
            for (int server = 0; server < 2; server++) {
                int known = server;
                Desk x = new Desk();
                Checks.due("at first", x.count(server, DEPOSITS), 0);
                x.deposit(server);
                x.deposit(server);
                x.setKeyByte(server, 32, 4);
                Checks.refused("deposit", Checks.STATE, () -> x.deposit(known));
                Checks.refused("deposit(2)", Checks.ARGUMENT, () -> x.deposit(2));
                Checks.due("deposits", x.count(server, DEPOSITS), 2);
                Checks.due("the other's", x.count(1 - server, DEPOSITS), 0);
                Checks.due("queries", x.count(server, QUERIES), 0);
            }
        });
        Checks.test("16: queries that were answered: none at first, refused ones not", () -> {
            for (int server = 0; server < 2; server++) {
                int known = server;
                Desk x = new Desk();
                Checks.due("at first", x.count(server, QUERIES), 0);
                x.query(server, 0);
                x.query(server, 0);
                x.query(server, 0);
                Checks.refused("query", Checks.STATE, () -> x.query(known, 1));
                Checks.refused("query(2, 0)", Checks.ARGUMENT, () -> x.query(2, 0));
                x.setKeyByte(server, 32, 4);
                Checks.refused("query", Checks.STATE, () -> x.query(known, 0));
                Checks.due("queries", x.count(server, QUERIES), 3);
                Checks.due("the other's", x.count(1 - server, QUERIES), 0);
                Checks.due("deposits", x.count(server, DEPOSITS), 0);
            }
        });
    }

    private static void keys() {
        Checks.test("16: whether the key of its number is good, and NONE as its places when it is not", () -> {
            for (int key = 0; key < 2; key++) {
                Desk x = new Desk();
                Checks.due("good at first", x.count(key, GOOD), 1);
                x.setKeyByte(key, 151, 4);
                Checks.due("not good", x.count(key, GOOD), 0);
                Checks.due("places of a key that is not good", x.count(key, CHOSEN), BlindShelf.NONE);
                Checks.due("the other is good", x.count(1 - key, GOOD), 1);
                Checks.due("the other's places", x.count(1 - key, CHOSEN) != BlindShelf.NONE, true);
                x.setKeyByte(key, 151, 3);
                Checks.due("good again", x.count(key, GOOD), 1);
            }
        });
        Checks.test("16: places that the key chooses, counted one by one", () -> {
            for (int a = 0; a < 256; a += 5) {
                for (int key = 0; key < 2; key++) {
                    Desk x = new Desk();
                    x.makeKeys(a, a, 2, 3, -a, 4);
                    int chosen = 0;
                    for (int i = 0; i < 256; i++) {
                        chosen += x.choice(key, i) ? 1 : 0;
                    }
                    Checks.due("chosen by key " + key, x.count(key, CHOSEN), chosen);
                    Checks.due("one more or less than by the other",
                            Math.abs(x.count(0, CHOSEN) - x.count(1, CHOSEN)), 1);
                }
            }
        });
    }
}
