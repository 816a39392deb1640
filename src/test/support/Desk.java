/**
 * A new BlindShelf whose calls are counted: nothing is promised behind the 512th, so a test that
 * asks for more is itself wrong.
 */
final class Desk implements Face {
    static final int CALLS = 512;

    private final BlindShelf shelf = new BlindShelf();
    private int calls;

    private BlindShelf counted() {
        calls++;
        if (calls > CALLS) {
            throw new AssertionError("the test makes more than 512 calls of one object");
        }
        return shelf;
    }

    int callsLeft() {
        return CALLS - calls;
    }

    @Override
    public void put(int server, int i, long v) {
        counted().put(server, i, v);
    }

    @Override
    public int close(int server) {
        return counted().close(server);
    }

    @Override
    public void makeKeys(int a, long first0, long second0, long first1, long second1, long message) {
        counted().makeKeys(a, first0, second0, first1, second1, message);
    }

    @Override
    public int keyByte(int key, int i) {
        return counted().keyByte(key, i);
    }

    @Override
    public void setKeyByte(int key, int i, int b) {
        counted().setKeyByte(key, i, b);
    }

    @Override
    public boolean choice(int key, int i) {
        return counted().choice(key, i);
    }

    @Override
    public long share(int key, int i) {
        return counted().share(key, i);
    }

    @Override
    public long query(int server, int version) {
        return counted().query(server, version);
    }

    @Override
    public long combine() {
        return counted().combine();
    }

    @Override
    public void deposit(int server) {
        counted().deposit(server);
    }

    @Override
    public long mailbox(int server, int i) {
        return counted().mailbox(server, i);
    }

    @Override
    public long record(int server, int version, int i) {
        return counted().record(server, version, i);
    }

    @Override
    public long digest(int server, int version) {
        return counted().digest(server, version);
    }

    @Override
    public long cipher(int key, long first, long second, boolean upper) {
        return counted().cipher(key, first, second, upper);
    }

    @Override
    public int count(int server, int what) {
        return counted().count(server, what);
    }
}
