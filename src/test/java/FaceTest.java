import java.lang.reflect.Constructor;
import java.lang.reflect.Field;
import java.lang.reflect.Method;
import java.lang.reflect.Modifier;
import java.util.Arrays;
import java.util.Set;
import java.util.TreeSet;

/** The public face: the document's constructor and methods, and nothing else that is not private. */
public final class FaceTest {
    private static final Checks CHECKS = new Checks();
    private static final String[] FACE = {
        "int command(int, int, int) IllegalArgumentException IllegalStateException",
        "void poke(int, int) IllegalArgumentException",
        "int peek(int) IllegalArgumentException",
        "int start()",
        "int look(int) IllegalArgumentException",
        "long clock()",
        "int record(int, int, int) IllegalArgumentException",
        "int byteOf(int, int, int) IllegalArgumentException",
        "void spoil(int, int) IllegalArgumentException",
        "int allocate(int, int) IllegalArgumentException IllegalStateException",
        "void scratch(int) IllegalArgumentException IllegalStateException",
        "int trackOf(int, int) IllegalArgumentException",
        "int free()",
        "int store(int, int, int) IllegalArgumentException IllegalStateException",
        "int fetch(int, int) IllegalArgumentException IllegalStateException",
    };

    public static void main(String[] args) {
        Class<?> type = TrackUnit.class;
        due("public and final", type.getModifiers() == (Modifier.PUBLIC | Modifier.FINAL));
        methods(type);
        Constructor<?>[] constructors = type.getDeclaredConstructors();
        due("one constructor", constructors.length == 1 && constructors[0].getParameterCount() == 0
            && constructors[0].getModifiers() == Modifier.PUBLIC);
        for (Field field : type.getDeclaredFields()) {
            due("private field " + field.getName(), Modifier.isPrivate(field.getModifiers()));
        }
        for (Class<?> inside : type.getDeclaredClasses()) {
            due("static class " + inside.getName(), Modifier.isStatic(inside.getModifiers())
                && !Modifier.isPublic(inside.getModifiers()));
        }
        CHECKS.finish();
    }

    private static void due(String what, boolean isSo) {
        CHECKS.due(what, isSo ? 1 : 0, 1);
    }

    private static void methods(Class<?> type) {
        Set<String> found = new TreeSet<>();
        for (Method method : type.getDeclaredMethods()) {
            if (!Modifier.isPrivate(method.getModifiers())) {
                due("public " + method.getName(), method.getModifiers() == Modifier.PUBLIC);
                found.add(written(method));
            }
        }
        Set<String> wanted = new TreeSet<>(Arrays.asList(FACE));
        for (String method : wanted) {
            due("there is " + method, found.contains(method));
        }
        for (String method : found) {
            due("the document has " + method, wanted.contains(method));
        }
    }

    private static String written(Method method) {
        StringBuilder text = new StringBuilder();
        text.append(method.getReturnType().getSimpleName()).append(' ').append(method.getName()).append('(');
        String between = "";
        for (Class<?> parameter : method.getParameterTypes()) {
            text.append(between).append(parameter.getSimpleName());
            between = ", ";
        }
        text.append(')');
        for (Class<?> thrown : method.getExceptionTypes()) {
            text.append(' ').append(thrown.getSimpleName());
        }
        return text.toString();
    }
}
