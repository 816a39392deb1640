/** The document's calls, so that one run of them can be made on the class and on the model. */
interface Face {
    void put(int server, int i, long v);

    int close(int server);

    void makeKeys(int a, long first0, long second0, long first1, long second1, long message);

    int keyByte(int key, int i);

    void setKeyByte(int key, int i, int b);

    boolean choice(int key, int i);

    long share(int key, int i);

    long query(int server, int version);

    long combine();

    void deposit(int server);

    long mailbox(int server, int i);

    long record(int server, int version, int i);

    long digest(int server, int version);

    long cipher(int key, long first, long second, boolean upper);

    int count(int server, int what);
}
