import java.lang.reflect.Constructor;
import java.lang.reflect.Executable;
import java.lang.reflect.Field;
import java.lang.reflect.Method;
import java.lang.reflect.Modifier;
import java.util.Arrays;
import java.util.Set;
import java.util.TreeSet;
import java.util.stream.Collectors;

/** The class shows the document's face and nothing else (LANGUAGE.md, rules 1 and 5). */
public final class FaceTest {
    private static final Set<String> FACE = Set.of(
            "BlindShelf()",
            "static final int NONE",
            "void put(int, int, long) throws IllegalArgumentException",
            "int close(int) throws IllegalArgumentException",
            "void makeKeys(int, long, long, long, long, long) throws IllegalArgumentException",
            "int keyByte(int, int) throws IndexOutOfBoundsException",
            "void setKeyByte(int, int, int) throws IndexOutOfBoundsException",
            "boolean choice(int, int) throws IndexOutOfBoundsException, IllegalStateException",
            "long share(int, int) throws IndexOutOfBoundsException, IllegalStateException",
            "long query(int, int) throws IllegalArgumentException, IllegalStateException",
            "long combine()",
            "void deposit(int) throws IllegalArgumentException, IllegalStateException",
            "long mailbox(int, int) throws IllegalArgumentException",
            "long record(int, int, int) throws IllegalArgumentException, IllegalStateException",
            "long digest(int, int) throws IllegalArgumentException, IllegalStateException",
            "long cipher(int, long, long, boolean) throws IllegalArgumentException",
            "int count(int, int)");

    public static void main(String[] args) {
        Set<String> seen = new TreeSet<>();
        boolean right = Modifier.isFinal(BlindShelf.class.getModifiers());
        for (Constructor<?> c : BlindShelf.class.getDeclaredConstructors()) {
            seen.add("BlindShelf" + parametersOf(c));
        }
        Set<String> privateNames = new TreeSet<>();
        Set<String> publicNames = new TreeSet<>();
        for (Method m : BlindShelf.class.getDeclaredMethods()) {
            if (Modifier.isPrivate(m.getModifiers())) {
                privateNames.add(m.getName());
            } else {
                publicNames.add(m.getName());
                seen.add(m.getReturnType().getSimpleName() + " " + m.getName() + parametersOf(m));
            }
        }
        for (Field f : BlindShelf.class.getDeclaredFields()) {
            if (!Modifier.isPrivate(f.getModifiers())) {
                seen.add("static final " + f.getType().getSimpleName() + " " + f.getName());
                right &= Modifier.isStatic(f.getModifiers()) && Modifier.isFinal(f.getModifiers());
            }
        }
        right &= sameNamesAreNone(privateNames, publicNames) & staticFieldsAreFinal();
        if (!seen.equals(new TreeSet<>(FACE))) {
            System.out.println("the face is " + seen + ", due is " + new TreeSet<>(FACE));
            right = false;
        }
        System.out.println(right ? "the face is as due" : "the face is not as due");
        System.exit(right ? 0 : 1);
    }

    private static String parametersOf(Executable e) {
        return names(e.getParameterTypes(), "(", ")") + (e.getExceptionTypes().length == 0
                ? "" : names(e.getExceptionTypes(), " throws ", ""));
    }

    private static String names(Class<?>[] types, String before, String after) {
        return Arrays.stream(types).map(Class::getSimpleName).collect(Collectors.joining(", ", before, after));
    }

    private static boolean sameNamesAreNone(Set<String> privateNames, Set<String> publicNames) {
        privateNames.retainAll(publicNames);
        if (!privateNames.isEmpty()) {
            System.out.println("private methods bear public names: " + privateNames);
        }
        return privateNames.isEmpty();
    }

    private static boolean staticFieldsAreFinal() {
        boolean right = true;
        for (Class<?> inside : BlindShelf.class.getDeclaredClasses()) {
            right &= Modifier.isStatic(inside.getModifiers()) && !Modifier.isPublic(inside.getModifiers());
            for (Field f : inside.getDeclaredFields()) {
                right &= !Modifier.isStatic(f.getModifiers()) || Modifier.isFinal(f.getModifiers());
            }
        }
        return right;
    }
}
