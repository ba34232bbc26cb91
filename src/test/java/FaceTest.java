import java.lang.reflect.Constructor;
import java.lang.reflect.Field;
import java.lang.reflect.Method;
import java.lang.reflect.Modifier;
import java.util.TreeSet;

/** The public face is the document's, and nothing else can be seen from outside. */
public final class FaceTest {
    private static final String[] METHODS = {
        "int wall(int,int,int) throws A",
        "int value(int,int) throws A",
        "boolean fails(int,int,int,boolean) throws A S",
        "int stops(int) throws A",
        "int run(int,int,int) throws A",
        "int colours()",
        "int colour(int) throws A",
        "int at(int) throws A",
        "int sum()",
        "int book(int,int) throws A",
        "int did(int) throws A",
        "int foretold(int,int) throws A",
        "int job(int) throws A S",
        "int take()",
        "int age(int) throws A",
    };

    public static void main(String[] args) {
        Class<?> face = ZoneThreads.class;
        Check.due("public and final", Modifier.PUBLIC | Modifier.FINAL, face::getModifiers);
        Check.due("methods", new TreeSet<>(java.util.List.of(METHODS)), () -> seenMethods(face));
        Check.due("constructors", "[ZoneThreads(int)]", () -> seenConstructors(face));
        Check.due("constants", "[public static final int NONE]", () -> seenFields(face));
        for (Class<?> inside : face.getDeclaredClasses()) {
            Check.due(inside + " is static", true, () -> Modifier.isStatic(inside.getModifiers()));
            Check.due(inside + " is not public", false, () -> Modifier.isPublic(inside.getModifiers()));
        }
        Check.end();
    }

    private static boolean isSeen(int modifiers) {
        return !Modifier.isPrivate(modifiers);
    }

    private static String types(Class<?>[] types) {
        StringBuilder text = new StringBuilder();
        for (Class<?> type : types) {
            text.append(text.length() == 0 ? "" : ",").append(type.getName());
        }
        return text.toString();
    }

    private static TreeSet<String> seenMethods(Class<?> face) {
        TreeSet<String> seen = new TreeSet<>();
        for (Method method : face.getDeclaredMethods()) {
            if (!isSeen(method.getModifiers()) || method.isSynthetic()) {
                continue;
            }
            StringBuilder text = new StringBuilder();
            text.append(method.getReturnType().getName()).append(' ').append(method.getName());
            text.append('(').append(types(method.getParameterTypes())).append(')');
            for (Class<?> thrown : method.getExceptionTypes()) {
                text.append(text.indexOf(" throws") < 0 ? " throws" : "");
                text.append(thrown == IllegalArgumentException.class ? " A" : thrown == IllegalStateException.class ? " S" : " ?");
            }
            seen.add(text.toString());
        }
        return seen;
    }

    private static TreeSet<String> seenConstructors(Class<?> face) {
        TreeSet<String> seen = new TreeSet<>();
        for (Constructor<?> constructor : face.getDeclaredConstructors()) {
            if (isSeen(constructor.getModifiers())) {
                seen.add(constructor.getName() + "(" + types(constructor.getParameterTypes()) + ")");
            }
        }
        return seen;
    }

    private static TreeSet<String> seenFields(Class<?> face) {
        TreeSet<String> seen = new TreeSet<>();
        for (Field field : face.getDeclaredFields()) {
            if (isSeen(field.getModifiers())) {
                seen.add(Modifier.toString(field.getModifiers()) + " " + field.getType().getName() + " " + field.getName());
            }
        }
        return seen;
    }
}
