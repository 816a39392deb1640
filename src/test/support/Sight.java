import java.util.ArrayList;
import java.util.List;
import java.util.function.Consumer;
import java.util.function.Supplier;

/**
 * All that later calls show of an object after a run of calls. Seeing it all takes more than 512
 * calls, so each part is seen on an object of its own that has gone through the same run.
 */
final class Sight {
    private interface Part {
        void see(Face x, int server);
    }

    private final List<Object> seen = new ArrayList<>();

    private Sight() {
    }

    static List<Object> after(Supplier<Face> objects, Consumer<Face> run) {
        Sight sight = new Sight();
        List<Part> parts = List.of(sight::counts, sight::digests, sight::keyBytes, sight::letters,
                sight::records, sight::closing, sight::choices, sight::shares, sight::answers,
                sight::depositing, sight::mended);
        for (Part part : parts) {
            for (int server = 0; server < 2; server++) {
                Face x = objects.get();
                run.accept(x);
                part.see(x, server);
            }
        }
        return sight.seen;
    }

    private void add(Supplier<Object> call) {
        seen.add(Checks.answerOf(call));
    }

    private void counts(Face x, int server) {
        seen.add(x.combine());
        for (int what = 0; what < 8; what++) {
            seen.add(x.count(server, what));
        }
    }

    private void digests(Face x, int server) {
        for (int back = -1; back < 11; back++) {
            int version = x.count(server, 0) - back;
            add(() -> x.digest(server, version));
        }
    }

    private void keyBytes(Face x, int key) {
        for (int i = 0; i < 160; i++) {
            seen.add(x.keyByte(key, i));
        }
    }

    private void letters(Face x, int server) {
        for (int i = 0; i < 256; i++) {
            seen.add(x.mailbox(server, i));
        }
        seen.add(x.mailbox(2, 0));
    }

    private void records(Face x, int server) {
        int newest = x.count(server, 0);
        for (int i = 0; i < 256; i++) {
            seen.add(x.record(server, newest, i));
        }
    }

    /** What the open batch held. */
    private void closing(Face x, int server) {
        seen.add(x.close(server));
        seen.add(x.count(server, 3));
        records(x, server);
    }

    private void choices(Face x, int key) {
        for (int n = 0; n < 256; n++) {
            int i = n;
            add(() -> x.choice(key, i));
        }
    }

    private void shares(Face x, int key) {
        for (int n = 0; n < 256; n++) {
            int i = n;
            add(() -> x.share(key, i));
        }
    }

    private void answers(Face x, int server) {
        for (int back = -1; back < 11; back++) {
            int version = x.count(server, 0) - back;
            add(() -> x.query(server, version));
            seen.add(x.combine());
        }
    }

    private void depositing(Face x, int server) {
        add(() -> {
            x.deposit(server);
            return "done";
        });
        letters(x, server);
    }

    /** A key that is not good shows what it holds when the bytes that may hinder are 0. */
    private void mended(Face x, int key) {
        for (int at = 16; at < 152; at += 17) {
            x.setKeyByte(key, at + 15, 0);
            x.setKeyByte(key, at + 16, 0);
        }
        shares(x, key);
        seen.add(x.count(key, 7));
    }
}
