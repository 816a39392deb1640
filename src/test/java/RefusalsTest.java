import java.util.List;
import java.util.function.Consumer;

/**
 * A refused call changes nothing that a later call shows: each one is made behind a run of calls,
 * and all that the object then shows is held against one on which it was not made. Calls that only
 * ask change nothing either.
 */
public final class RefusalsTest {
    /** The document's calls are made on objects in these states. */
    private enum State {
        NEW(x -> { }),
        BUSY(RefusalsTest::busyRun),
        NOT_GOOD(x -> {
            busyRun(x);
            x.setKeyByte(0, 32, x.keyByte(0, 32) | 4);
            x.setKeyByte(1, 150, x.keyByte(1, 150) | 1);
        });

        final Consumer<Face> run;
        List<Object> shown;

        State(Consumer<Face> run) {
            this.run = run;
        }
    }

    public static void main(String[] args) {
        for (State state : State.values()) {
            state.shown = Sight.after(Desk::new, state.run);
            Checks.test(state + ": all is shown as the document says", () ->
                    Checks.same("all that is shown", state.shown, Sight.after(Model::new, state.run)));
            arguments(state);
            keyIndexes(state);
            versions(state);
            asked(state);
        }
        notGood();
        Checks.end();
    }

    /** Both servers hold nine versions, have an open batch, an answer and letters. */
    private static void busyRun(Face x) {
        x.makeKeys(90, 1, -2, 3, -4, 5);
        for (int version = 1; version <= 11; version++) {
            x.put(0, 20 * version, version);
            x.close(0);
            x.put(1, 256 - 20 * version, -version);
            x.close(1);
        }
        for (int server = 0; server < 2; server++) {
            x.deposit(server);
            x.query(server, 7);
            x.put(server, 0, 70 + server);
            x.put(server, 255, 80 + server);
        }
        x.makeKeys(13, 9, 8, 7, 6, 5);
    }

    private static void refused(State state, String call, Class<? extends RuntimeException> want,
            Consumer<Face> refusedCall) {
        Checks.test(state + ": " + call + " is refused and changes nothing", () -> {
            Consumer<Face> withIt = x -> {
                state.run.accept(x);
                Checks.refused(call, want, () -> refusedCall.accept(x));
            };
            Checks.same("shown afterwards", Sight.after(Desk::new, withIt), state.shown);
        });
    }

    private static void arguments(State state) {
        for (int server : Checks.NO_SERVERS) {
            refused(state, "put(" + server + ", 0, -1)", Checks.ARGUMENT, x -> x.put(server, 0, -1));
            refused(state, "close(" + server + ")", Checks.ARGUMENT, x -> x.close(server));
            refused(state, "query(" + server + ", 0)", Checks.ARGUMENT, x -> x.query(server, 0));
            refused(state, "query(" + server + ", 11)", Checks.ARGUMENT, x -> x.query(server, 11));
            refused(state, "query(" + server + ", 99)", Checks.ARGUMENT, x -> x.query(server, 99));
            refused(state, "deposit(" + server + ")", Checks.ARGUMENT, x -> x.deposit(server));
            refused(state, "record(" + server + ", 0, 0)", Checks.ARGUMENT, x -> x.record(server, 0, 0));
            refused(state, "record(" + server + ", 11, 0)", Checks.ARGUMENT, x -> x.record(server, 11, 0));
            refused(state, "digest(" + server + ", 0)", Checks.ARGUMENT, x -> x.digest(server, 0));
            refused(state, "digest(" + server + ", 11)", Checks.ARGUMENT, x -> x.digest(server, 11));
            refused(state, "cipher(" + server + ", 1, 2, true)", Checks.ARGUMENT, x -> x.cipher(server, 1, 2, true));
        }
        for (int i : Checks.NO_PLACES) {
            refused(state, "makeKeys(" + i + ", ..)", Checks.ARGUMENT, x -> x.makeKeys(i, 91, 92, 93, 94, 95));
            refused(state, "mailbox(2, " + i + ")", Checks.ARGUMENT, x -> x.mailbox(2, i));
            for (int server = 0; server < 2; server++) {
                int known = server;
                refused(state, "put(" + server + ", " + i + ", -1)", Checks.ARGUMENT, x -> x.put(known, i, -1));
                refused(state, "mailbox(" + server + ", " + i + ")", Checks.ARGUMENT, x -> x.mailbox(known, i));
                refused(state, "record(" + server + ", 99, " + i + ")", Checks.ARGUMENT, x -> x.record(known, 99, i));
            }
        }
        for (int server : new int[] {-1, 3, Integer.MIN_VALUE, Integer.MAX_VALUE}) {
            refused(state, "mailbox(" + server + ", 0)", Checks.ARGUMENT, x -> x.mailbox(server, 0));
        }
    }

    private static void keyIndexes(State state) {
        for (int key : Checks.NO_SERVERS) {
            refused(state, "keyByte(" + key + ", 0)", Checks.INDEX, x -> x.keyByte(key, 0));
            refused(state, "setKeyByte(" + key + ", 0, 99)", Checks.INDEX, x -> x.setKeyByte(key, 0, 99));
            refused(state, "choice(" + key + ", 0)", Checks.INDEX, x -> x.choice(key, 0));
            refused(state, "share(" + key + ", 0)", Checks.INDEX, x -> x.share(key, 0));
        }
        for (int key = 0; key < 2; key++) {
            int known = key;
            for (int i : Checks.NO_KEY_BYTES) {
                refused(state, "keyByte(" + key + ", " + i + ")", Checks.INDEX, x -> x.keyByte(known, i));
                refused(state, "setKeyByte(" + key + ", " + i + ", 99)", Checks.INDEX,
                        x -> x.setKeyByte(known, i, 99));
            }
            for (int i : Checks.NO_PLACES) {
                refused(state, "choice(" + key + ", " + i + ")", Checks.INDEX, x -> x.choice(known, i));
                refused(state, "share(" + key + ", " + i + ")", Checks.INDEX, x -> x.share(known, i));
            }
        }
    }

    private static void versions(State state) {
        int newest = state == State.NEW ? 0 : 11;
        int oldest = state == State.NEW ? 0 : 3;
        for (int version : new int[] {oldest - 1, newest + 1, Integer.MIN_VALUE, Integer.MAX_VALUE}) {
            for (int server = 0; server < 2; server++) {
                int known = server;
                refused(state, "query(" + server + ", " + version + ")", Checks.STATE, x -> x.query(known, version));
                refused(state, "record(" + server + ", " + version + ", 0)", Checks.STATE,
                        x -> x.record(known, version, 0));
                refused(state, "digest(" + server + ", " + version + ")", Checks.STATE,
                        x -> x.digest(known, version));
            }
        }
    }

    private static void notGood() {
        for (int key = 0; key < 2; key++) {
            int known = key;
            refused(State.NOT_GOOD, "choice(" + key + ", 0)", Checks.STATE, x -> x.choice(known, 0));
            refused(State.NOT_GOOD, "choice(" + key + ", 255)", Checks.STATE, x -> x.choice(known, 255));
            refused(State.NOT_GOOD, "share(" + key + ", 0)", Checks.STATE, x -> x.share(known, 0));
            refused(State.NOT_GOOD, "share(" + key + ", 255)", Checks.STATE, x -> x.share(known, 255));
            refused(State.NOT_GOOD, "query(" + key + ", 3)", Checks.STATE, x -> x.query(known, 3));
            refused(State.NOT_GOOD, "query(" + key + ", 11)", Checks.STATE, x -> x.query(known, 11));
            refused(State.NOT_GOOD, "deposit(" + key + ")", Checks.STATE, x -> x.deposit(known));
        }
    }

    private static void asked(State state) {
        Checks.test(state + ": calls that only ask change nothing", () -> {
            Consumer<Face> withIt = x -> {
                state.run.accept(x);
                for (int key = 0; key < 2; key++) {
                    int known = key;
                    Checks.answerOf(() -> x.choice(known, 3));
                    Checks.answerOf(() -> x.share(known, 250));
                    x.keyByte(key, 32);
                    x.mailbox(key, 255);
                    x.record(key, x.count(key, 0), 0);
                    x.digest(key, x.count(key, 1));
                    x.cipher(key, -1, 1, true);
                    for (int what = -1; what <= 8; what++) {
                        x.count(key, what);
                    }
                }
                x.combine();
                x.count(2, 0);
            };
            Checks.same("shown afterwards", Sight.after(Desk::new, withIt), state.shown);
        });
    }
}
