import java.lang.reflect.Constructor;
import java.lang.reflect.Field;
import java.lang.reflect.Method;
import java.lang.reflect.Modifier;
import java.util.ArrayList;
import java.util.Arrays;
import java.util.List;
import java.util.Set;
import java.util.TreeSet;
import java.util.stream.Collectors;

/** The public face: just the signatures of the document, and nothing else that is not private. */
final class FaceTest {
    private static final Checks checks = new Checks("FaceTest");

    private static final List<String> FACE = List.of(
            "boolean setRoom(int, int, int) throws IndexOutOfBoundsException, IllegalArgumentException, IllegalStateException",
            "int read(int, int) throws IndexOutOfBoundsException, IllegalStateException",
            "boolean write(int, int, int) throws IndexOutOfBoundsException, IllegalArgumentException, IllegalStateException",
            "int evict(int, int) throws IndexOutOfBoundsException, NoSuchElementException, IllegalStateException",
            "int state(int, int) throws IndexOutOfBoundsException",
            "int value(int, int) throws IndexOutOfBoundsException, NoSuchElementException",
            "int victimValue(int, int) throws IndexOutOfBoundsException",
            "int openLine(int) throws IndexOutOfBoundsException",
            "int latestRead(int) throws IndexOutOfBoundsException",
            "int lineAt(int, int) throws IndexOutOfBoundsException, NoSuchElementException",
            "int owner(int) throws IndexOutOfBoundsException",
            "int sharers(int) throws IndexOutOfBoundsException",
            "boolean isBusy(int) throws IndexOutOfBoundsException",
            "int queued(int) throws IndexOutOfBoundsException",
            "int memory(int) throws IndexOutOfBoundsException",
            "int messageCount()",
            "int messageKind(int) throws IndexOutOfBoundsException",
            "int messageLine(int) throws IndexOutOfBoundsException",
            "int messageFrom(int) throws IndexOutOfBoundsException",
            "int messageTo(int) throws IndexOutOfBoundsException",
            "int deliver(int) throws IndexOutOfBoundsException",
            "int settle(int) throws IllegalArgumentException",
            "int hits(int) throws IndexOutOfBoundsException",
            "int misses(int) throws IndexOutOfBoundsException",
            "int writebacks()",
            "int lateWritebacks()",
            "boolean isInOrder(int) throws IndexOutOfBoundsException",
            "long digest()");

    public static void main(String[] args) {
        Class<?> face = CacheDirectory.class;
        checks.same("the class's modifiers", Modifier.toString(face.getModifiers()), "public final");
        checks.same("its constructors", Arrays.stream(face.getDeclaredConstructors())
                .map(Constructor::toString).toList(), List.of("public CacheDirectory()"));
        Set<String> names = new TreeSet<>();
        List<String> signatures = new ArrayList<>();
        for (Method method : face.getDeclaredMethods()) {
            if (Modifier.isPublic(method.getModifiers())) {
                names.add(method.getName());
                signatures.add(signature(method));
            }
        }
        checks.same("its methods", new TreeSet<>(signatures), new TreeSet<>(FACE));
        checkPrivate(face, names);
        for (Class<?> inside : face.getDeclaredClasses()) {
            checks.same(inside + " is static", Modifier.isStatic(inside.getModifiers()), true);
            checks.same(inside + " is not public", Modifier.isPublic(inside.getModifiers()), false);
            for (Method method : inside.getDeclaredMethods()) {
                checks.same(method + " bears a public name", names.contains(method.getName()), false);
            }
        }
        checks.end();
    }

    private static void checkPrivate(Class<?> face, Set<String> publicNames) {
        for (Field field : face.getDeclaredFields()) {
            checks.same(field + " is private", Modifier.isPrivate(field.getModifiers()), true);
            checks.same(field + " is final", Modifier.isFinal(field.getModifiers()), true);
        }
        for (Method method : face.getDeclaredMethods()) {
            if (!Modifier.isPublic(method.getModifiers())) {
                checks.same(method + " is private", Modifier.isPrivate(method.getModifiers()), true);
                checks.same(method + " bears a public name", publicNames.contains(method.getName()), false);
            }
        }
    }

    private static String signature(Method method) {
        String thrown = names(method.getExceptionTypes());
        return method.getReturnType().getSimpleName() + " " + method.getName() + "("
                + names(method.getParameterTypes()) + ")" + (thrown.isEmpty() ? "" : " throws " + thrown);
    }

    private static String names(Class<?>[] types) {
        return Arrays.stream(types).map(Class::getSimpleName).collect(Collectors.joining(", "));
    }
}
