import java.util.Arrays;
import java.util.Random;
import java.util.function.Consumer;
import java.util.function.Function;

/** Runs of 512 calls chosen by a seeded generator, each answer held against the model's. */
public final class RandomRunsTest {
    private static final int RUNS = 150;

    public static void main(String[] args) {
        for (int run = 0; run < RUNS; run++) {
            int seed = 9000 + run;
            Checks.test("run " + run, () -> new Run(seed).go());
        }
        Checks.end();
    }

    private static final class Run {
        private final Random random;
        private final Desk desk = new Desk();
        private final Model model = new Model();

        Run(int seed) {
            this.random = new Random(seed);
        }

        void go() {
            while (desk.callsLeft() > 0) {
                oneCall();
            }
        }

        private int mostly(int bound) {
            int kind = random.nextInt(40);
            return kind == 0 ? -1 : kind == 1 ? bound : kind == 2 ? random.nextInt() : random.nextInt(bound);
        }

        private int version(int server) {
            int newest = server == 0 || server == 1 ? model.newest(server) : 0;
            return random.nextInt(30) == 0 ? random.nextInt() : newest + 1 - random.nextInt(11);
        }

        private long value() {
            int kind = random.nextInt(4);
            return kind == 0 ? 0 : kind == 1 ? random.nextInt(3) : random.nextLong();
        }

        /** Often one of few records, so that changes meet. */
        private int near(int place) {
            return random.nextBoolean() ? place : random.nextInt(4);
        }

        private int keyPlace() {
            return random.nextInt(4) == 0 ? 16 + 17 * random.nextInt(8) + 15 + random.nextInt(2) : mostly(160);
        }

        /** Mostly one that leaves the key good. */
        private int byteFor(int i) {
            boolean strict = i >= 16 && i < 152 && (i - 16) % 17 >= 15 && random.nextInt(4) != 0;
            return !strict ? random.nextInt() : (i - 16) % 17 == 16 ? random.nextInt(4) : 2 * random.nextInt(128);
        }

        private void oneCall() {
            int server = mostly(2);
            int place = mostly(256);
            switch (random.nextInt(18)) {
                case 0:
                case 1:
                    put(server, near(place), value());
                    break;
                case 2:
                    asked("close", x -> x.close(server), server);
                    break;
                case 3:
                    makeKeys(place, value(), value(), value(), value(), value());
                    break;
                case 4:
                    keyByte(server, keyPlace());
                    break;
                case 5:
                    setKeyByte(server, keyPlace());
                    break;
                case 6:
                case 7:
                    asked("choice", x -> x.choice(server, place), server, place);
                    break;
                case 8:
                case 9:
                    asked("share", x -> x.share(server, place), server, place);
                    break;
                case 10:
                    query(server, version(server));
                    break;
                case 11:
                    asked("combine", Face::combine);
                    break;
                case 12:
                    told("deposit", x -> x.deposit(server), server);
                    break;
                case 13:
                    mailbox(mostly(3), place);
                    break;
                case 14:
                    record(server, version(server), near(place));
                    break;
                case 15:
                    digest(server, version(server));
                    break;
                case 16:
                    cipher(server, value(), value(), random.nextBoolean());
                    break;
                default:
                    count(server, mostly(8));
                    break;
            }
        }

        private void put(int server, int i, long v) {
            told("put", x -> x.put(server, i, v), server, i, v);
        }

        private void makeKeys(int a, long first0, long second0, long first1, long second1, long message) {
            told("makeKeys", x -> x.makeKeys(a, first0, second0, first1, second1, message),
                    a, first0, second0, first1, second1, message);
        }

        private void keyByte(int key, int i) {
            asked("keyByte", x -> x.keyByte(key, i), key, i);
        }

        private void setKeyByte(int key, int i) {
            int b = byteFor(i);
            told("setKeyByte", x -> x.setKeyByte(key, i, b), key, i, b);
        }

        private void query(int server, int version) {
            asked("query", x -> x.query(server, version), server, version);
        }

        private void mailbox(int server, int i) {
            asked("mailbox", x -> x.mailbox(server, i), server, i);
        }

        private void record(int server, int version, int i) {
            asked("record", x -> x.record(server, version, i), server, version, i);
        }

        private void digest(int server, int version) {
            asked("digest", x -> x.digest(server, version), server, version);
        }

        private void cipher(int key, long first, long second, boolean upper) {
            asked("cipher", x -> x.cipher(key, first, second, upper), key, first, second, upper);
        }

        private void count(int server, int what) {
            asked("count", x -> x.count(server, what), server, what);
        }

        private void told(String name, Consumer<Face> call, Object... arguments) {
            asked(name, x -> {
                call.accept(x);
                return "done";
            }, arguments);
        }

        private void asked(String name, Function<Face, Object> call, Object... arguments) {
            String which = "call " + (Desk.CALLS - desk.callsLeft() + 1) + ", " + name + Arrays.toString(arguments);
            Checks.due(which, Checks.answerOf(() -> call.apply(desk)), Checks.answerOf(() -> call.apply(model)));
        }
    }
}
