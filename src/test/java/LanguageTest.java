import java.io.IOException;
import java.nio.file.Files;
import java.nio.file.Path;
import java.util.List;

/** The class's file keeps to the rules of LANGUAGE.md that its source shows. */
public final class LanguageTest {
    private static final Path FILE = Path.of("src/main/java/BlindShelf.java");

    public static void main(String[] args) throws IOException {
        String source = Files.readString(FILE);
        Checks.test("the class's file", () -> Checks.due("faults", SourceRules.faultsOf(source), List.of()));
        Checks.test("another file that keeps to the rules", LanguageTest::right);
        rulesOnClasses();
        rulesOnTypes();
        rulesOnExceptions();
        rulesOnSteps();
        Checks.end();
    }

    private static void right() {
        Checks.due("faults", faultsWith("private static final int[] TABLE = {1, 2};"
                + " public BlindShelf() { fill(new int[4]); } private void fill(int[] row) { row = new int[2]; }"
                + " public void refuse() { throw new IllegalStateException(\"refused\"); }"
                + " private int first(int[] row) { return row.length > 0 ? Math.max(row[0], 1) / 2 : 0; }"
                + " static final class Part { private final int[][] rows = new int[2][4]; }"), List.of());
    }

    private static void rulesOnClasses() {
        whole(1, "package shelves; public final class BlindShelf { }");
        whole(1, "class BlindShelf { }");
        whole(1, "public final class BlindShelf { } final class Other { }");
        whole(4, "import java.io.File; public final class BlindShelf { }");
        broken(1, "public static final class Part { }");
        broken(1, "public int sum() { return 0; } private int sum(int a) { return a; }");
        broken(2, "private final class Part { }");
        broken(2, "private void run() { Runnable r = () -> { }; }");
        broken(2, "private void run() { Runnable r = this::run; }");
        broken(2, "private Object part() { return new Part() { }; } static class Part { }");
        broken(11, "private void f(int a, int b, int c, int d, int e, int f, int g, int h) { }");
        broken(11, "private void f() {" + "\n".repeat(60) + "}");
        broken(11, parts(12));
        broken(11, "private int a" + ", b".repeat(20) + ";");
    }

    private static String parts(int number) {
        StringBuilder text = new StringBuilder();
        for (int n = 0; n < number; n++) {
            text.append("private static final class Part").append(n).append(" { } ");
        }
        return text.toString();
    }

    private static void rulesOnTypes() {
        broken(3, "private int[][][] rows;");
        broken(3, "private Part[][] parts; private static final class Part { }");
        broken(3, "private double half;");
        broken(4, "private final java.util.Random random = null;");
        broken(4, "private long now() { return System.nanoTime(); }");
        broken(4, "private int sum(int a) { return Math.addExact(a, a); }");
        broken(4, "private String text(String a) { return a.trim(); }");
        broken(5, "private static int number;");
        broken(5, "private static final int[] TABLE = new int[4];");
        broken(5, "private static final StringBuilder TEXT = null;");
        broken(5, "static { }");
    }

    private static void rulesOnExceptions() {
        broken(6, "private void f() { throw new Error(); }");
        broken(6, "private void f(String s) { throw new RuntimeException(s); }");
        broken(6, "private void f(RuntimeException e) { throw e; }");
        broken(6, "private Object f() { return new RuntimeException(); }");
        broken(6, "public BlindShelf() { throw new RuntimeException(); }");
        broken(6, "private void f() { try { g(); } finally { g(); } } private void g() { }");
        broken(6, "private void f() { synchronized (this) { } }");
        broken(6, "private void f() { assert true; }");
        broken(6, "public String toString() { return null; }");
    }

    private static void rulesOnSteps() {
        broken(7, "private int f(int a, int b) { return a / b; }");
        broken(7, "private int f(int a) { return a % 0; }");
        broken(7, "private int f(int a, int b) { a /= b; return a; }");
        broken(9, "private void f() { while (true) { } }");
        broken(9, "private void f() { do { } while (true); }");
        broken(9, "private void f() { for (;;) { } }");
        broken(10, "private String f(int a) { return \"a\" + a; }");
        broken(11, "private void f() { f(); }");
        broken(11, "private void f() { g(); } private void g() { f(); }");
        broken(11, "private void a() { b(); } private void b() { c(); } private void c() { d(); }"
                + "private void d() { e(); } private void e() { f(); } private void f() { g(); }"
                + "private void g() { h(); } private void h() { i(); } private void i() { }");
        broken(12, "public int f() { return g().length; } private int[] g() { return new int[4]; }");
        broken(12, "public Part f() { return new Part(); } private static final class Part { }");
        broken(12, "private int[] row; public int f() { return row.clone().length; }");
    }

    private static List<String> faultsWith(String members) {
        return SourceRules.faultsOf("public final class BlindShelf {\n" + members + "\n}\n");
    }

    private static void broken(int rule, String members) {
        named(rule, members, faultsWith(members));
    }

    private static void whole(int rule, String source) {
        named(rule, source, SourceRules.faultsOf(source));
    }

    /** A rule that finds nothing in a file that breaks it would find nothing in the class's. */
    private static void named(int rule, String source, List<String> faults) {
        Checks.test("rule " + rule + " finds: " + source, () -> {
            boolean found = faults.stream().anyMatch(fault -> fault.matches("rule " + rule + "\\b.*"));
            Checks.due("found in " + faults, found, true);
        });
    }
}
