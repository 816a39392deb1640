import java.io.IOException;
import java.lang.reflect.Constructor;
import java.lang.reflect.Executable;
import java.lang.reflect.Field;
import java.lang.reflect.Member;
import java.lang.reflect.Method;
import java.lang.reflect.Modifier;
import java.nio.file.Files;
import java.nio.file.Path;
import java.util.Arrays;
import java.util.Set;
import java.util.TreeSet;
import java.util.stream.Collectors;

/** The class shows the face that stands in the document, and nothing else (LANGUAGE.md, rule 1). */
public final class FaceTest {
    private static final Path DOCUMENT = Path.of("../shared/DOC.md");

    public static void main(String[] args) throws IOException {
        String document = Files.readString(DOCUMENT);
        Checks.test("the class is public and final", () ->
                Checks.due("class", Modifier.toString(BlindShelf.class.getModifiers()), "public final"));
        Checks.test("the face", () -> {
            Set<String> due = faceIn(document);
            Checks.due("constants, constructors and methods of the document", due.size(), 17);
            Checks.due("shown and not in the document", without(shown(), due), Set.of());
            Checks.due("in the document and not shown", without(due, shown()), Set.of());
        });
        Checks.test("classes inside are static, and private or package-visible", () -> {
            for (Class<?> inside : BlindShelf.class.getDeclaredClasses()) {
                Set<String> words = Set.of(Modifier.toString(inside.getModifiers()).split(" "));
                Checks.due(inside + " is static", words.contains("static"), true);
                Checks.due(inside + " is visible", words.contains("public") || words.contains("protected"), false);
            }
        });
        Checks.end();
    }

    /** The document's lines without what a compiled class does not show: its parameters' names. */
    private static Set<String> faceIn(String document) {
        return document.lines().filter(line -> line.startsWith("    public "))
                .map(line -> line.strip().replaceAll("\\b(int|long|boolean) \\w+([,)])", "$1$2").replace(";", ""))
                .collect(Collectors.toCollection(TreeSet::new));
    }

    private static Set<String> without(Set<String> some, Set<String> others) {
        Set<String> rest = new TreeSet<>(some);
        rest.removeAll(others);
        return rest;
    }

    private static Set<String> shown() {
        Set<String> shown = new TreeSet<>();
        for (Constructor<?> c : BlindShelf.class.getDeclaredConstructors()) {
            addUnlessPrivate(shown, c, c.getName() + parametersOf(c));
        }
        for (Method m : BlindShelf.class.getDeclaredMethods()) {
            addUnlessPrivate(shown, m, m.getReturnType() + " " + m.getName() + parametersOf(m));
        }
        for (Field f : BlindShelf.class.getDeclaredFields()) {
            addUnlessPrivate(shown, f, f.getType() + " " + f.getName() + valueOf(f));
        }
        return shown;
    }

    private static void addUnlessPrivate(Set<String> shown, Member member, String text) {
        if (!Modifier.isPrivate(member.getModifiers())) {
            shown.add((Modifier.toString(member.getModifiers()) + " " + text).strip());
        }
    }

    private static String parametersOf(Executable e) {
        return names(e.getParameterTypes(), "(", ")") + (e.getExceptionTypes().length == 0
                ? "" : names(e.getExceptionTypes(), " throws ", ""));
    }

    private static String names(Class<?>[] types, String before, String after) {
        return Arrays.stream(types).map(Class::getSimpleName).collect(Collectors.joining(", ", before, after));
    }

    private static String valueOf(Field field) {
        if (!Modifier.isStatic(field.getModifiers()) || Modifier.isPrivate(field.getModifiers())) {
            return "";
        }
        try {
            return " = " + field.get(null);
        } catch (IllegalAccessException e) {
            throw new AssertionError(e);
        }
    }
}
