/**
 * The boundary cases that the document names for what servers answer and are left: promises 1 and
 * 9 to 12. That refused calls change nothing is tested in RefusalsTest.
 */
public final class ServerBoundariesTest {
    private static final int[] NO_MAILBOXES = {-1, 3, Integer.MIN_VALUE, Integer.MAX_VALUE};
    private static final int[] NO_VERSIONS = {-1, 1, Integer.MIN_VALUE, Integer.MAX_VALUE};

    public static void main(String[] args) {
        query();
        queriedRecords();
        combine();
        deposit();
        mailbox();
        Checks.end();
    }

    /** Both servers have the same records in version 1, each place's its own; keys are for place a. */
    private static Desk forReading(int a) {
        Desk x = new Desk();
        for (int n = 0; n < 16; n++) {
            int i = n == 15 ? a : 17 * n;
            x.put(0, i, valueOf(i));
            x.put(1, i, valueOf(i));
        }
        x.close(0);
        x.close(1);
        x.makeKeys(a, 21, -22, 23, -24, 0);
        return x;
    }

    private static long valueOf(int i) {
        return (i + 1) * 0x9E3779B97F4A7C15L;
    }

    private static Desk withNeitherKeyGood() {
        Desk x = forReading(5);
        x.setKeyByte(0, 32, 4);
        x.setKeyByte(1, 150, 1);
        return x;
    }

    private static void query() {
        Checks.test("9: the first and the last server are taken", () -> {
            Desk x = forReading(255);
            Checks.due("both answers", x.query(0, 1) ^ x.query(1, 1), valueOf(255));
        });
        Checks.test("9: no such server", () -> {
            for (int server : Checks.NO_SERVERS) {
                Checks.refused("query(" + server + ", 0)", Checks.ARGUMENT, () -> new Desk().query(server, 0));
            }
        });
        Checks.test("9: no such server comes before a version that is not held", () -> {
            for (int server : Checks.NO_SERVERS) {
                for (int version : NO_VERSIONS) {
                    Checks.refused("query(" + server + ", " + version + ")", Checks.ARGUMENT,
                            () -> new Desk().query(server, version));
                }
            }
        });
        Checks.test("9: no such server comes before keys that are not good", () -> {
            Desk x = withNeitherKeyGood();
            for (int server : Checks.NO_SERVERS) {
                Checks.refused("query(" + server + ", 1)", Checks.ARGUMENT, () -> x.query(server, 1));
                Checks.refused("query(" + server + ", 99)", Checks.ARGUMENT, () -> x.query(server, 99));
            }
        });
        Checks.test("9: the version is not held", () -> {
            for (int version : NO_VERSIONS) {
                Checks.refused("query(0, " + version + ")", Checks.STATE, () -> new Desk().query(0, version));
                Checks.refused("query(1, " + version + ")", Checks.STATE, () -> new Desk().query(1, version));
            }
        });
        Checks.test("9: the version is held by the other server alone", () -> {
            Desk x = new Desk();
            x.close(1);
            Checks.refused("query(0, 1)", Checks.STATE, () -> x.query(0, 1));
            Checks.taken("query(1, 1)", () -> x.query(1, 1));
        });
        Checks.test("9: the key is not good", () -> {
            for (int server = 0; server < 2; server++) {
                int known = server;
                Desk x = forReading(9);
                x.setKeyByte(server, 32, 255);
                Checks.refused("query(" + server + ", 1)", Checks.STATE, () -> x.query(known, 1));
            }
        });
        Checks.test("9: neither is the version held nor the key good", () -> {
            Desk x = withNeitherKeyGood();
            Checks.refused("query(0, 2)", Checks.STATE, () -> x.query(0, 2));
            Checks.refused("query(1, -1)", Checks.STATE, () -> x.query(1, -1));
        });
        Checks.test("9: the other server's key need not be good", () -> {
            for (int server = 0; server < 2; server++) {
                int known = server;
                long answer = forReading(9).query(server, 1);
                Desk x = forReading(9);
                x.setKeyByte(1 - server, 31, 1);
                Checks.taken("query(" + server + ", 1)", () -> x.query(known, 1));
                Checks.due("query(" + server + ", 1)", x.query(known, 1), answer);
            }
        });
    }

    private static void queriedRecords() {
        Checks.test("9: a version of zeros is answered by 0", () -> {
            Desk x = forReading(3);
            Checks.due("query(0, 0)", x.query(0, 0), 0);
            Checks.due("query(1, 0)", x.query(1, 0), 0);
        });
        Checks.test("9: the open batch is not answered from", () -> {
            Desk x = forReading(3);
            long answer = x.query(0, 1);
            for (int i = 0; i < 256; i++) {
                x.put(0, i, -1);
            }
            Checks.due("query(0, 1)", x.query(0, 1), answer);
            Checks.due("query(0, 0)", x.query(0, 0), 0);
        });
        Checks.test("9: the first and the last place that are chosen, and those that are not, each alone", () -> {
            for (int server = 0; server < 2; server++) {
                for (int i = 0; i < 256; i++) {
                    Desk x = new Desk();
                    x.makeKeys(128, 1, 2, 3, 4, 5);
                    x.put(server, i, Long.MIN_VALUE + i);
                    x.close(server);
                    Checks.due("query, record " + i, x.query(server, 1),
                            x.choice(server, i) ? Long.MIN_VALUE + i : 0);
                }
            }
        });
        Checks.test("9: from the oldest version that is held to the newest", () -> {
            Desk x = new Desk();
            x.makeKeys(60, 1, 2, 3, 4, 5);
            for (int version = 1; version <= 20; version++) {
                x.put(0, 60, version);
                x.put(1, 60, version);
                x.close(0);
                x.close(1);
            }
            for (int version = 12; version <= 20; version++) {
                Checks.due("version " + version, x.query(0, version) ^ x.query(1, version), version);
            }
            Checks.refused("query(0, 11)", Checks.STATE, () -> x.query(0, 11));
            Checks.refused("query(1, 21)", Checks.STATE, () -> x.query(1, 21));
        });
    }

    private static void combine() {
        Checks.test("10: 0 before any query, whatever else was called", () -> {
            Desk x = forReading(3);
            Checks.due("combine of a new object", new Desk().combine(), 0);
            x.deposit(0);
            Checks.due("combine", x.combine(), 0);
        });
        Checks.test("10: the other answer is 0 before its first query", () -> {
            for (int server = 0; server < 2; server++) {
                Desk x = forReading(3);
                long answer = x.query(server, 1);
                Checks.due("the answer is not 0", answer != 0, true);
                Checks.due("combine", x.combine(), answer);
            }
        });
        Checks.test("10: the latest answers count", () -> {
            Desk x = forReading(3);
            long answer0 = x.query(0, 1);
            long answer1 = x.query(1, 1);
            Checks.due("combine", x.combine(), answer0 ^ answer1);
            x.query(0, 0);
            Checks.due("combine, server 0 by version 0", x.combine(), answer1);
            x.query(1, 0);
            Checks.due("combine, both by version 0", x.combine(), 0);
            x.query(0, 1);
            Checks.due("combine, server 1 by version 0", x.combine(), answer0);
        });
        Checks.test("10: both together are the record, for the first and last places", () -> {
            for (int a : new int[] {0, 1, 127, 128, 254, 255}) {
                Desk x = forReading(a);
                x.query(0, 1);
                x.query(1, 1);
                Checks.due("record " + a, x.combine(), valueOf(a));
            }
        });
        Checks.test("10: answers stay when the records, keys and versions that they are from do not", () -> {
            Desk x = forReading(3);
            long both = x.query(0, 1) ^ x.query(1, 1);
            x.put(0, 3, 0);
            for (int n = 0; n < 10; n++) {
                x.close(0);
            }
            x.makeKeys(4, 4, 4, 4, 4, 4);
            x.setKeyByte(0, 32, 255);
            Checks.due("combine", x.combine(), both);
        });
        Checks.test("10: a refused query leaves the answer", () -> {
            Desk x = forReading(3);
            long answer = x.query(0, 1);
            Checks.refused("query(0, 2)", Checks.STATE, () -> x.query(0, 2));
            Checks.due("combine after a version not held", x.combine(), answer);
            x.setKeyByte(0, 32, 4);
            Checks.refused("query(0, 0)", Checks.STATE, () -> x.query(0, 0));
            Checks.due("combine after a key not good", x.combine(), answer);
            Checks.refused("query(2, 0)", Checks.ARGUMENT, () -> x.query(2, 0));
            Checks.due("combine after no such server", x.combine(), answer);
        });
    }

    private static void deposit() {
        Checks.test("11: the first and the last server are taken, each place of their mailboxes", () -> {
            for (int server = 0; server < 2; server++) {
                Desk x = new Desk();
                x.makeKeys(12, 1, 2, 3, 4, 5);
                x.deposit(server);
                for (int i = 0; i < 255; i++) {
                    int place = 255 - i;
                    Checks.due("place " + place, x.mailbox(server, place), x.share(server, place));
                }
                Desk first = new Desk();
                first.makeKeys(12, 1, 2, 3, 4, 5);
                first.deposit(server);
                Checks.due("place 0", first.mailbox(server, 0), first.share(server, 0));
                for (int i = 0; i < 256; i++) {
                    Checks.due("place " + i + " of the other", first.mailbox(1 - server, i), 0);
                }
            }
        });
        Checks.test("11: no such server", () -> {
            for (int server : Checks.NO_SERVERS) {
                Checks.refused("deposit(" + server + ")", Checks.ARGUMENT, () -> new Desk().deposit(server));
            }
        });
        Checks.test("11: no such server comes before keys that are not good", () -> {
            Desk x = withNeitherKeyGood();
            for (int server : Checks.NO_SERVERS) {
                Checks.refused("deposit(" + server + ")", Checks.ARGUMENT, () -> x.deposit(server));
            }
        });
        Checks.test("11: the key is not good", () -> {
            for (int server = 0; server < 2; server++) {
                int known = server;
                Desk x = forReading(9);
                x.setKeyByte(server, 31, 1);
                Checks.refused("deposit(" + server + ")", Checks.STATE, () -> x.deposit(known));
                Checks.taken("deposit(" + (1 - server) + ")", () -> x.deposit(1 - known));
                for (int i = 0; i < 256; i++) {
                    Checks.due("place " + i, x.mailbox(server, i), 0);
                }
            }
        });
        Checks.test("11: two deposits by one key leave what was there", () -> {
            Desk x = new Desk();
            x.makeKeys(12, 1, 2, 3, 4, -1);
            x.deposit(0);
            long before = x.mailbox(0, 12);
            x.makeKeys(13, 5, 6, 7, 8, -2);
            x.deposit(0);
            x.deposit(0);
            Checks.due("place 12", x.mailbox(0, 12), before);
            Checks.due("deposits", x.count(0, 4), 3);
        });
        Checks.test("11: messages in the first and last places, the smallest and largest ones", () -> {
            for (int a : new int[] {0, 255}) {
                for (long message : new long[] {0, 1, -1, Long.MIN_VALUE, Long.MAX_VALUE}) {
                    Desk x = new Desk();
                    x.makeKeys(a, 1, 2, 3, 4, message);
                    x.deposit(0);
                    x.deposit(1);
                    for (int i = 0; i < 256; i++) {
                        Checks.due("place " + i, x.mailbox(2, i), i == a ? message : 0);
                    }
                }
            }
        });
        Checks.test("11: no record is changed by it", () -> {
            Desk x = forReading(9);
            long digest = x.digest(0, 1);
            x.deposit(0);
            Checks.due("digest", x.digest(0, 1), digest);
            Checks.due("changes of the batch", x.count(0, 2), 0);
        });
    }

    private static void mailbox() {
        Checks.test("1: all places of both mailboxes are 0 at first", () -> {
            for (int server = 0; server <= 2; server++) {
                Desk x = new Desk();
                for (int i = 0; i < 256; i++) {
                    Checks.due("mailbox(" + server + ", " + i + ")", x.mailbox(server, i), 0);
                }
            }
        });
        Checks.test("12: servers 0 and 1 and both together, the first and the last place", () -> {
            Desk x = new Desk();
            x.makeKeys(255, 1, 2, 3, 4, 5);
            x.deposit(0);
            x.makeKeys(0, 6, 7, 8, 9, 10);
            x.deposit(1);
            Model model = new Model();
            model.makeKeys(255, 1, 2, 3, 4, 5);
            model.deposit(0);
            model.makeKeys(0, 6, 7, 8, 9, 10);
            model.deposit(1);
            for (int server = 0; server <= 2; server++) {
                for (int i : new int[] {0, 1, 127, 128, 254, 255}) {
                    Checks.due("mailbox(" + server + ", " + i + ")", x.mailbox(server, i), model.mailbox(server, i));
                }
            }
        });
        Checks.test("12: there is no such server", () -> {
            for (int server : NO_MAILBOXES) {
                for (int i : new int[] {0, 255, -1, 256}) {
                    Checks.refused("mailbox(" + server + ", " + i + ")", Checks.ARGUMENT,
                            () -> new Desk().mailbox(server, i));
                }
            }
        });
        Checks.test("12: there is no such place", () -> {
            for (int server = 0; server <= 2; server++) {
                int known = server;
                for (int i : Checks.NO_PLACES) {
                    Checks.refused("mailbox(" + server + ", " + i + ")", Checks.ARGUMENT,
                            () -> new Desk().mailbox(known, i));
                }
            }
        });
        Checks.test("12: keys that are not good do not hinder", () -> {
            Desk x = withNeitherKeyGood();
            for (int server = 0; server <= 2; server++) {
                Checks.due("mailbox(" + server + ", 0)", x.mailbox(server, 0), 0);
            }
        });
    }
}
