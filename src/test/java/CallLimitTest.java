/** "An object is used for at most 512 calls after it has been made": the 512th is still as due. */
public final class CallLimitTest {
    private interface Call {
        void on(Desk x, int n);
    }

    public static void main(String[] args) {
        closings();
        countedCalls();
        batches();
        mixedCalls();
        Checks.end();
    }

    /** All calls that an object has but those that are still asked for. */
    private static Desk after(int callsLeft, Call call) {
        Desk x = new Desk();
        for (int n = 1; x.callsLeft() > callsLeft; n++) {
            call.on(x, n);
        }
        return x;
    }

    private static void closings() {
        Checks.test("512 closings", () -> {
            Desk x = after(0, (desk, n) -> Checks.due("close", desk.close(1), n));
            Checks.due("calls left", x.callsLeft(), 0);
        });
        Checks.test("511 closings, then what is held", () -> {
            Call closing = (desk, n) -> desk.close(0);
            Checks.due("newest", after(1, closing).count(0, 0), 511);
            Checks.due("oldest", after(1, closing).count(0, 1), 503);
            Checks.due("record of the newest", after(1, closing).record(0, 511, 255), 0);
            Checks.due("digest of the oldest", after(1, closing).digest(0, 503), 0);
            Checks.refused("before the oldest", Checks.STATE, () -> after(1, closing).record(0, 502, 0));
            Checks.refused("behind the newest", Checks.STATE, () -> after(1, closing).query(0, 512));
        });
        Checks.test("255 closings of changed batches, then the oldest and the newest version", () -> {
            Call changing = (desk, n) -> {
                desk.put(0, n, n);
                desk.close(0);
            };
            Desk x = after(2, changing);
            Checks.due("record of the newest", x.record(0, 255, 255), 255);
            Checks.due("record of the oldest", x.record(0, 247, 248), 0);
            Desk y = after(2, changing);
            Checks.due("record of the oldest", y.record(0, 247, 247), 247);
            Checks.refused("before the oldest", Checks.STATE, () -> y.record(0, 246, 246));
        });
    }

    private static void countedCalls() {
        Checks.test("511 deposits, then their number and what they left", () -> {
            Call depositing = (desk, n) -> desk.deposit(1);
            Checks.due("deposits", after(1, depositing).count(1, 4), 511);
            Checks.due("mailbox", after(1, depositing).mailbox(1, 255), new Desk().share(1, 255));
        });
        Checks.test("510 deposits leave nothing", () -> {
            Desk x = after(2, (desk, n) -> desk.deposit(0));
            Checks.due("mailbox", x.mailbox(0, 0), 0);
            Checks.due("mailbox", x.mailbox(0, 255), 0);
        });
        Checks.test("511 queries, then their number", () ->
                Checks.due("queries", after(1, (desk, n) -> desk.query(0, 0)).count(0, 5), 511));
        Checks.test("511 refused calls, then a new object's answers", () -> {
            Call refused = (desk, n) -> Checks.refused("query", Checks.STATE, () -> desk.query(1, n));
            Checks.due("queries", after(1, refused).count(1, 5), 0);
            Checks.due("closing", after(1, refused).close(1), 1);
            Checks.due("share", after(1, refused).share(1, 7), new Desk().share(1, 7));
        });
    }

    private static void batches() {
        Checks.test("510 changes of one batch, then its closing", () -> {
            Desk x = after(2, (desk, n) -> desk.put(0, n & 255, n));
            x.close(0);
            Checks.due("changes", x.count(0, 3), 256);
            Desk y = after(2, (desk, n) -> desk.put(0, n & 255, n));
            y.close(0);
            Checks.due("the latest change", y.record(0, 1, 254), 510);
        });
    }

    private static void mixedCalls() {
        Checks.test("511 makings, then the last one's share", () -> {
            Model model = new Model();
            model.makeKeys(255, 511, 1, 2, 3, 4);
            Call making = (desk, n) -> desk.makeKeys(n & 255, n, 1, 2, 3, 4);
            Checks.due("share", after(1, making).share(0, 255), model.share(0, 255));
            Checks.due("places", after(1, making).count(1, 7), model.count(1, 7));
        });
        Checks.test("511 bytes set, then the last one", () -> {
            Desk x = after(1, (desk, n) -> desk.setKeyByte(1, 159, n));
            Checks.due("keyByte", x.keyByte(1, 159), 511 & 255);
        });
        Checks.test("511 ciphers, then one more", () -> {
            Desk x = after(1, (desk, n) -> desk.cipher(n & 1, n, -n, true));
            Checks.due("cipher", x.cipher(1, 5, 6, false), new Model().cipher(1, 5, 6, false));
        });
    }
}
