import java.lang.reflect.Constructor;
import java.lang.reflect.Field;
import java.lang.reflect.Method;
import java.lang.reflect.Modifier;
import java.util.Arrays;
import java.util.Set;
import java.util.TreeSet;

/** The document's public face, and rules 1 and 5 of LANGUAGE.md: this face and no other. */
public final class FaceTest {
    private static final Set<String> FACE = new TreeSet<>(Arrays.asList(
        "int date() IllegalStateException",
        "int weight(int, int, int) NoSuchElementException IllegalArgumentException",
        "void outlier(int, int, int) NoSuchElementException IllegalArgumentException",
        "int row(int, int, int, int) NoSuchElementException IllegalArgumentException",
        "int member(int) NoSuchElementException",
        "int total(int) NoSuchElementException",
        "int answered(int, int, int) NoSuchElementException",
        "int bound(int, int, int) NoSuchElementException IllegalStateException",
        "int both(int, int, int, int, int) NoSuchElementException",
        "int span(int, int) NoSuchElementException",
        "int narrow(int, int, int) NoSuchElementException IllegalArgumentException",
        "boolean fits()",
        "int fitless(int) NoSuchElementException",
        "int count(int) NoSuchElementException"));

    private FaceTest() {
    }

    public static void main(String[] args) {
        Expect expect = new Expect("FaceTest");
        Class<?> c = OrderPassing.class;
        expect.same("modifiers", Modifier.toString(c.getModifiers()), "public final");
        expect.same("methods", openMethods(c), FACE);
        expect.same("constants", openFields(c), new TreeSet<>(Set.of("public static final int NONE")));
        expect.same("NONE", OrderPassing.NONE, -1);
        Constructor<?>[] made = c.getDeclaredConstructors();
        expect.same("constructors", made.length, 1);
        expect.same("constructor", made[0].toString(), "public OrderPassing()");
        for (Class<?> inside : c.getDeclaredClasses()) {
            int is = inside.getModifiers();
            expect.same(inside + " is static", Modifier.isStatic(is), true);
            expect.same(inside + " is open", Modifier.isPublic(is) || Modifier.isProtected(is), false);
            staticsAreFinal(expect, inside);
        }
        staticsAreFinal(expect, c);
        privateNamesDiffer(expect, c);
        expect.finish();
    }

    private static Set<String> openMethods(Class<?> c) {
        Set<String> open = new TreeSet<>();
        for (Method m : c.getDeclaredMethods()) {
            if (!Modifier.isPrivate(m.getModifiers())) {
                StringBuilder text = new StringBuilder(m.getReturnType() + " " + m.getName());
                String types = Arrays.toString(m.getParameterTypes());
                text.append('(').append(types, 1, types.length() - 1).append(')');
                for (Class<?> thrown : m.getExceptionTypes()) {
                    text.append(' ').append(thrown.getSimpleName());
                }
                open.add(text.toString());
            }
        }
        return open;
    }

    private static Set<String> openFields(Class<?> c) {
        Set<String> open = new TreeSet<>();
        for (Field f : c.getDeclaredFields()) {
            if (!Modifier.isPrivate(f.getModifiers())) {
                open.add(Modifier.toString(f.getModifiers()) + " " + f.getType() + " " + f.getName());
            }
        }
        return open;
    }

    private static void staticsAreFinal(Expect expect, Class<?> c) {
        for (Field f : c.getDeclaredFields()) {
            if (Modifier.isStatic(f.getModifiers())) {
                expect.same(f + " is final", Modifier.isFinal(f.getModifiers()), true);
            }
        }
    }

    private static void privateNamesDiffer(Expect expect, Class<?> c) {
        for (Method m : c.getDeclaredMethods()) {
            for (Method other : c.getDeclaredMethods()) {
                if (Modifier.isPrivate(m.getModifiers()) && Modifier.isPublic(other.getModifiers())) {
                    expect.same(m + " bears a public name", m.getName().equals(other.getName()), false);
                }
            }
        }
    }
}
