import java.lang.reflect.Constructor;
import java.lang.reflect.Field;
import java.lang.reflect.Method;
import java.lang.reflect.Modifier;
import java.util.Map;
import java.util.TreeMap;
import java.util.TreeSet;

/** The public face is the document's, and there is nothing else to be seen from outside. */
public final class FaceTest {
    private static final String[] METHODS = {
        "void task(int,int,int,int,int,int) IndexOutOfBoundsException IllegalStateException IllegalArgumentException",
        "int request(int,int,int,int,int) IndexOutOfBoundsException IllegalStateException IllegalArgumentException",
        "void take(int) IndexOutOfBoundsException IllegalStateException",
        "int group(int) IndexOutOfBoundsException",
        "int spin(int,int) IndexOutOfBoundsException",
        "int bound(int,int) IndexOutOfBoundsException IllegalArgumentException",
        "int seal() IllegalStateException",
        "void unseal() IllegalStateException",
        "boolean arrive(int) IndexOutOfBoundsException IllegalStateException",
        "void shorten(int,int,int) IndexOutOfBoundsException IllegalStateException IllegalArgumentException",
        "int tick(int) IllegalStateException IllegalArgumentException",
        "int core(int,int) IndexOutOfBoundsException IllegalArgumentException",
        "int row(int,int) IndexOutOfBoundsException",
        "int jobs(int,int) IndexOutOfBoundsException IllegalArgumentException",
        "int spun(int,int) IndexOutOfBoundsException",
        "int late()",
    };

    public static void main(String[] args) throws IllegalAccessException {
        Check.due("the class", Modifier.toString(SpinKernel.class.getModifiers()), "public final");
        Constructor<?>[] constructors = SpinKernel.class.getDeclaredConstructors();
        Check.due("constructors", constructors.length, 1);
        Check.due("the constructor", constructors[0].toString(), "public SpinKernel()");
        checkMethods();
        checkConstants();
        checkClassesInside();
        Check.finish();
    }

    private static void checkMethods() {
        TreeSet<String> seen = new TreeSet<>();
        TreeSet<String> names = new TreeSet<>();
        for (Method m : SpinKernel.class.getDeclaredMethods()) {
            if (Modifier.isPrivate(m.getModifiers())) {
                continue;
            }
            Check.due(m.getName(), Modifier.toString(m.getModifiers()), "public");
            seen.add(textOf(m));
            names.add(m.getName());
        }
        Check.due("methods", seen.toString(), new TreeSet<>(java.util.List.of(METHODS)).toString());
        for (Method m : SpinKernel.class.getDeclaredMethods()) {
            boolean clash = Modifier.isPrivate(m.getModifiers()) && names.contains(m.getName());
            Check.due("private method with a public name: " + m.getName(), clash ? 1 : 0, 0);
        }
    }

    private static String textOf(Method m) {
        StringBuilder text = new StringBuilder();
        text.append(m.getReturnType()).append(' ').append(m.getName()).append('(');
        for (int i = 0; i < m.getParameterCount(); i++) {
            text.append(i == 0 ? "" : ",").append(m.getParameterTypes()[i]);
        }
        text.append(')');
        for (Class<?> thrown : m.getExceptionTypes()) {
            text.append(' ').append(thrown.getSimpleName());
        }
        return text.toString();
    }

    private static void checkConstants() throws IllegalAccessException {
        Map<String, Integer> seen = new TreeMap<>();
        for (Field f : SpinKernel.class.getDeclaredFields()) {
            boolean isStatic = Modifier.isStatic(f.getModifiers());
            Check.due("static and not final: " + f, isStatic && !Modifier.isFinal(f.getModifiers()) ? 1 : 0, 0);
            if (!Modifier.isPrivate(f.getModifiers())) {
                Check.due(f.getName(), Modifier.toString(f.getModifiers()), "public static final");
                seen.put(f.getName(), f.getInt(null));
            }
        }
        Check.due("constants", seen.toString(), "{HOLDS=3, IDLE=0, NONE=-1, PLAIN=1, SPINS=2}");
    }

    private static void checkClassesInside() {
        for (Class<?> inside : SpinKernel.class.getDeclaredClasses()) {
            int modifiers = inside.getModifiers();
            boolean seen = Modifier.isPublic(modifiers) || Modifier.isProtected(modifiers);
            Check.due(inside + " is to be seen", seen ? 1 : 0, 0);
            Check.due(inside + " is static", Modifier.isStatic(modifiers) ? 1 : 0, 1);
        }
    }
}
