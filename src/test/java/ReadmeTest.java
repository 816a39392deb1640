import java.io.IOException;
import java.lang.reflect.Method;
import java.lang.reflect.Modifier;
import java.net.URL;
import java.net.URLClassLoader;
import java.nio.file.Files;
import java.nio.file.Path;
import java.util.ArrayList;
import java.util.Arrays;
import java.util.List;
import java.util.function.Supplier;
import java.util.regex.Matcher;
import java.util.regex.Pattern;
import java.util.stream.Collectors;
import java.util.stream.Stream;
import javax.tools.ToolProvider;

/**
 * What README.md shows of the class's use is so: each of its examples is compiled and run, with the
 * told answers taken, and answers as it says; its table has each call of the face with what it throws;
 * its list has each test.
 */
public final class ReadmeTest {
    private static final Path README = Path.of("README.md");
    private static final Pattern EXAMPLE = Pattern.compile("```java\n(.*?)```", Pattern.DOTALL);
    private static final Pattern TOLD =
            Pattern.compile("\\s*(\\S.*?);\\s*// (?:answers (-?\\w+)|(throws) (\\w+))(?:: .*)?");
    private static final Pattern TEST = Pattern.compile("`(\\w+Test)`");
    private static final Pattern ROW =
            Pattern.compile("\\| \\d+ \\| `(\\w+)\\((.*?)\\)` \\| .* \\|(.*)\\|");

    public static void main(String[] args) throws IOException {
        String readme = Files.readString(README);
        Matcher example = EXAMPLE.matcher(readme);
        int examples = 0;
        while (example.find()) {
            examples++;
            Example found = new Example("ReadmeExample" + examples, example.group(1));
            Checks.test("example " + examples, found::check);
        }
        int seen = examples;
        Checks.test("there are examples", () -> Checks.due("more than one", seen > 1, true));
        Checks.test("the table of calls", () -> tableOfCalls(readme));
        Checks.test("the list of tests", () -> listOf(readme, Path.of("src/test/java")));
        Checks.test("there is each test of the list", () -> {
            Matcher test = TEST.matcher(readme);
            while (test.find()) {
                boolean there = Files.exists(Path.of("src/test/java", test.group(1) + ".java"));
                Checks.due(test.group(1) + " is there", there, true);
            }
        });
        Checks.test("the list of support", () -> listOf(readme, Path.of("src/test/support")));
        Checks.test("the list of classes inside", () -> {
            for (Class<?> inside : BlindShelf.class.getDeclaredClasses()) {
                named(readme, inside.getSimpleName());
            }
        });
        Checks.end();
    }

    private static final class Example {
        private final String name;
        private final List<String> calls = new ArrayList<>();
        private final List<String> told = new ArrayList<>();
        private final StringBuilder body = new StringBuilder();

        Example(String name, String text) {
            this.name = name;
            text.lines().forEach(this::add);
        }

        /** A call with a told answer gives its answer away; each other line stays as it is. */
        private void add(String line) {
            Matcher call = TOLD.matcher(line);
            if (!call.matches()) {
                body.append(line).append('\n');
                return;
            }
            calls.add(call.group(1));
            told.add(call.group(3) == null ? call.group(2) : "throws." + call.group(4));
            body.append("try { answers.add(String.valueOf(").append(call.group(1)).append(")); }")
                    .append(" catch (RuntimeException e) {")
                    .append(" answers.add(\"throws.\" + e.getClass().getSimpleName()); }\n");
        }

        void check() {
            Checks.due("tells answers", told.isEmpty(), false);
            body.toString().lines().forEach(Example::noTextBehindACall);
            List<String> answers = new ArrayList<>(answers());
            Checks.due("number of answers", answers.size(), told.size());
            for (int n = 0; n < told.size(); n++) {
                Checks.due(calls.get(n), answers.get(n), told.get(n));
            }
        }

        /** A comment behind a call that tells its answer in another form would not be tested. */
        private static void noTextBehindACall(String line) {
            boolean behind = line.contains("//") && !line.strip().startsWith("//");
            Checks.due("text behind a call that is not tested: " + line, behind, false);
        }

        private List<String> answers() {
            try {
                Path folder = Files.createTempDirectory("readme");
                try {
                    return answersBy(folder);
                } finally {
                    remove(folder);
                }
            } catch (IOException | ReflectiveOperationException e) {
                throw new AssertionError(e);
            }
        }

        @SuppressWarnings("unchecked")
        private List<String> answersBy(Path folder) throws IOException, ReflectiveOperationException {
            Path file = folder.resolve(name + ".java");
            Files.writeString(file, source());
            int code = ToolProvider.getSystemJavaCompiler().run(null, null, null, "-d", folder.toString(),
                    "-cp", System.getProperty("java.class.path"), file.toString());
            if (code != 0) {
                throw new AssertionError("the example is not compiled");
            }
            URL[] place = {folder.toUri().toURL()};
            try (URLClassLoader loader = new URLClassLoader(place, ReadmeTest.class.getClassLoader())) {
                Object made = loader.loadClass(name).getConstructor().newInstance();
                return ((Supplier<List<String>>) made).get();
            }
        }

        private String source() {
            return "public final class " + name
                    + " implements java.util.function.Supplier<java.util.List<String>> {\n"
                    + "public java.util.List<String> get() {\n"
                    + "java.util.List<String> answers = new java.util.ArrayList<>();\n"
                    + body + "return answers;\n}\n}\n";
        }

        private static void remove(Path folder) throws IOException {
            try (Stream<Path> files = Files.list(folder)) {
                for (Path file : files.collect(Collectors.toList())) {
                    Files.delete(file);
                }
            }
            Files.delete(folder);
        }
    }

    private static void tableOfCalls(String readme) {
        List<String> rows = new ArrayList<>();
        readme.lines().map(ROW::matcher).filter(Matcher::matches).forEach(row -> rows.add(
                call(row.group(1), row.group(2).isEmpty() ? 0 : row.group(2).split(", ").length,
                        row.group(3).strip())));
        List<String> due = Arrays.stream(BlindShelf.class.getDeclaredMethods())
                .filter(method -> Modifier.isPublic(method.getModifiers()))
                .map(ReadmeTest::call).collect(Collectors.toList());
        Checks.due("rows", rows.stream().sorted().collect(Collectors.toList()),
                due.stream().sorted().collect(Collectors.toList()));
    }

    private static String call(Method method) {
        return call(method.getName(), method.getParameterCount(),
                Arrays.stream(method.getExceptionTypes()).map(Class::getSimpleName)
                        .collect(Collectors.joining(", ")));
    }

    private static String call(String name, int parameters, String thrown) {
        return name + " of " + parameters + " throws " + thrown;
    }

    private static void listOf(String readme, Path folder) {
        try (Stream<Path> files = Files.list(folder)) {
            files.forEach(file -> named(readme, file.getFileName().toString().replace(".java", "")));
        } catch (IOException e) {
            throw new AssertionError(e);
        }
    }

    private static void named(String readme, String name) {
        Checks.due(name + " is told of", readme.contains("`" + name + "`"), true);
    }
}
