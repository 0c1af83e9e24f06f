import java.lang.reflect.Constructor;
import java.lang.reflect.Field;
import java.lang.reflect.Method;
import java.lang.reflect.Modifier;
import java.util.Arrays;
import java.util.Set;
import java.util.TreeSet;

/** The class has the document's face and nothing else that can be seen (rules 1 and 5 of LANGUAGE.md). */
public final class FaceTest {
    private static final Set<String> FACE = new TreeSet<>(Set.of(
        "WriteBackTier(int)",
        "long read(int) IllegalArgumentException",
        "void write(int,long) IllegalArgumentException",
        "int cut(int,long,int) IllegalArgumentException IllegalStateException",
        "int mode(int) IllegalArgumentException",
        "int back(int) IllegalArgumentException",
        "int check()",
        "int crash()",
        "int lose()",
        "int slot(int) IllegalArgumentException",
        "boolean dirty(int) IllegalArgumentException NoSuchElementException",
        "long origin(int) IllegalArgumentException",
        "int order(int) IndexOutOfBoundsException",
        "int noted(int) IndexOutOfBoundsException",
        "int figure(int) IllegalArgumentException"));

    private FaceTest() {
    }

    public static void main(String[] args) {
        Class<?> c = WriteBackTier.class;
        Expect.same("modifiers of the class", Modifier.toString(c.getModifiers()), "public final");
        Expect.same("what can be seen", seenMembers(c), FACE);
        for (Field f : c.getDeclaredFields()) {
            int m = f.getModifiers();
            Expect.same("field " + f.getName() + " is private", Modifier.isPrivate(m), true);
            Expect.same("field " + f.getName() + " is no static state", !Modifier.isStatic(m) || Modifier.isFinal(m), true);
        }
        for (Method m : c.getDeclaredMethods()) {
            if (Modifier.isPrivate(m.getModifiers())) {
                Expect.same("private method " + m.getName() + " has a name of its own", isPublicName(c, m.getName()), false);
            }
        }
        Expect.end();
    }

    private static Set<String> seenMembers(Class<?> c) {
        Set<String> seen = new TreeSet<>();
        for (Constructor<?> k : c.getDeclaredConstructors()) {
            if (!Modifier.isPrivate(k.getModifiers())) {
                seen.add(hidden(k.getModifiers()) + c.getName() + list(k.getParameterTypes()) + thrown(k.getExceptionTypes()));
            }
        }
        for (Method m : c.getDeclaredMethods()) {
            if (!Modifier.isPrivate(m.getModifiers())) {
                seen.add(hidden(m.getModifiers()) + m.getReturnType().getName() + " " + m.getName()
                    + list(m.getParameterTypes()) + thrown(m.getExceptionTypes()));
            }
        }
        return seen;
    }

    private static String hidden(int modifiers) {
        return modifiers == Modifier.PUBLIC ? "" : "[" + Modifier.toString(modifiers) + "] ";
    }

    private static String list(Class<?>[] types) {
        return "(" + String.join(",", Arrays.stream(types).map(Class::getName).toList()) + ")";
    }

    private static String thrown(Class<?>[] types) {
        return String.join("", Arrays.stream(types).map(t -> " " + t.getSimpleName()).toList());
    }

    private static boolean isPublicName(Class<?> c, String name) {
        return Arrays.stream(c.getMethods()).anyMatch(m -> m.getDeclaringClass() == c && m.getName().equals(name));
    }
}
