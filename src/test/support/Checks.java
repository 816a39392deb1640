import java.util.List;
import java.util.function.Supplier;

/** Tests with a name each; what is not as due is printed, and the end is an exit code. */
final class Checks {
    static final Class<? extends RuntimeException> ARGUMENT = IllegalArgumentException.class;
    static final Class<? extends RuntimeException> INDEX = IndexOutOfBoundsException.class;
    static final Class<? extends RuntimeException> STATE = IllegalStateException.class;

    /** The first that is refused on each side, and the smallest and largest of their type. */
    static final int[] NO_SERVERS = {-1, 2, Integer.MIN_VALUE, Integer.MAX_VALUE};
    static final int[] NO_PLACES = {-1, 256, Integer.MIN_VALUE, Integer.MAX_VALUE};
    static final int[] NO_KEY_BYTES = {-1, 160, Integer.MIN_VALUE, Integer.MAX_VALUE};

    private static String name = "";
    private static int tests = 0;
    private static int failed = 0;
    private static int wrongHere = 0;

    private Checks() {
    }

    /** A test's failing, by an exception too, does not keep the next one from being run. */
    static void test(String testName, Runnable body) {
        name = testName;
        wrongHere = 0;
        tests++;
        try {
            body.run();
        } catch (RuntimeException | AssertionError e) {
            wrong("the test itself was ended by " + e);
        }
        failed += wrongHere == 0 ? 0 : 1;
    }

    static void due(String call, long got, long want) {
        due(call, Long.valueOf(got), Long.valueOf(want));
    }

    static void due(String call, Object got, Object want) {
        if (!got.equals(want)) {
            wrong(call + " answered " + got + ", due is " + want);
        }
    }

    /** Of two long lists the first answer that is not as due tells enough. */
    static void same(String what, List<Object> got, List<Object> want) {
        due(what + ": answers", got.size(), want.size());
        for (int n = 0; n < Math.min(got.size(), want.size()); n++) {
            if (!got.get(n).equals(want.get(n))) {
                due(what + ": answer " + n, got.get(n), want.get(n));
                return;
            }
        }
    }

    static void refused(String call, Class<? extends RuntimeException> want, Runnable body) {
        due(call, thrownBy(body), "throws." + want.getSimpleName());
    }

    static void taken(String call, Runnable body) {
        due(call, thrownBy(body), "throws nothing");
    }

    private static Object thrownBy(Runnable body) {
        return answerOf(() -> {
            body.run();
            return "throws nothing";
        });
    }

    /** What a call answers, or the very class that it throws: one below the due one is not due. */
    static Object answerOf(Supplier<Object> call) {
        try {
            return call.get();
        } catch (RuntimeException e) {
            return "throws." + e.getClass().getSimpleName();
        }
    }

    private static void wrong(String text) {
        wrongHere++;
        if (wrongHere <= 5) {
            System.out.println(name + ": " + text);
        }
    }

    static void end() {
        System.out.println(tests + " tests, " + failed + " failed");
        System.exit(failed == 0 && tests > 0 ? 0 : 1);
    }
}
