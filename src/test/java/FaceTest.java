import java.lang.reflect.Constructor;
import java.lang.reflect.Field;
import java.lang.reflect.Method;
import java.lang.reflect.Modifier;
import java.util.Arrays;
import java.util.NoSuchElementException;
import java.util.TreeSet;

/** The public face: every constant, constructor and method of the document, and no others. */
public final class FaceTest {
    private static final String[] FACE = {
        "boolean end(int)",
        "boolean trip(int,int,int) IndexOutOfBoundsException IllegalArgumentException",
        "int boat(int,int,int) IndexOutOfBoundsException IllegalArgumentException UnsupportedOperationException",
        "int count(int)",
        "int counts(int,int,int) IndexOutOfBoundsException",
        "int fault()",
        "int feed(int,int,int,int,int)",
        "int field(int,int,int,int) IllegalArgumentException",
        "int flies(int,int) IndexOutOfBoundsException",
        "int gale(int,int,int,int) IndexOutOfBoundsException IllegalArgumentException UnsupportedOperationException",
        "int hours(int) IllegalArgumentException",
        "int look(int,int) IndexOutOfBoundsException NoSuchElementException",
        "int port(int,int,int,int) IllegalArgumentException UnsupportedOperationException",
        "int report(int,int,int,int) IndexOutOfBoundsException IllegalArgumentException UnsupportedOperationException",
        "int rules() IllegalArgumentException",
        "int score(int,int) IndexOutOfBoundsException NoSuchElementException",
        "int warning(int,int) IndexOutOfBoundsException NoSuchElementException",
    };

    public static void main(String[] args) {
        Class<?> c = StormFlags.class;
        Check.due("the class is public and final",
                Modifier.isPublic(c.getModifiers()) && Modifier.isFinal(c.getModifiers()), true);
        methods(c);
        constants(c);
        Constructor<?>[] made = c.getDeclaredConstructors();
        Check.due("constructors", made.length, 1);
        Check.due("the constructor is public",
                Modifier.isPublic(made[0].getModifiers()) && made[0].getParameterCount() == 0, true);
        for (Class<?> inside : c.getDeclaredClasses()) {
            Check.due(inside + " is static and not public", Modifier.isStatic(inside.getModifiers())
                    && !Modifier.isPublic(inside.getModifiers()) && !Modifier.isProtected(inside.getModifiers()), true);
        }
        Check.leave();
    }

    private static void methods(Class<?> c) {
        TreeSet<String> open = new TreeSet<>();
        TreeSet<String> openNames = new TreeSet<>();
        for (Method m : c.getDeclaredMethods()) {
            if (!Modifier.isPrivate(m.getModifiers())) {
                open.add(told(m));
                openNames.add(m.getName());
                Check.due(m + " is public and not static", m.getModifiers(), Modifier.PUBLIC);
            }
        }
        for (Method m : c.getDeclaredMethods()) {
            if (Modifier.isPrivate(m.getModifiers())) {
                Check.due("a private method bears the name of " + m.getName(), openNames.contains(m.getName()), false);
            }
        }
        TreeSet<String> want = new TreeSet<>(Arrays.asList(FACE));
        if (!open.equals(want)) {
            System.out.println("the face has " + open + ", due is " + want);
        }
        Check.due("the face is the document's", open.equals(want), true);
    }

    private static void constants(Class<?> c) {
        for (Field f : c.getDeclaredFields()) {
            if (!Modifier.isPrivate(f.getModifiers())) {
                Check.due("the field " + f.getName() + " is NONE", f.getName().equals("NONE"), true);
                Check.due("NONE's modifiers", f.getModifiers(), Modifier.PUBLIC | Modifier.STATIC | Modifier.FINAL);
            }
        }
        Check.due("NONE", StormFlags.NONE, -1);
    }

    private static String told(Method m) {
        StringBuilder all = new StringBuilder();
        all.append(m.getReturnType().getSimpleName()).append(' ').append(m.getName()).append('(');
        for (int i = 0; i < m.getParameterCount(); i++) {
            all.append(i == 0 ? "" : ",").append(m.getParameterTypes()[i].getSimpleName());
        }
        all.append(')');
        for (Class<?> e : m.getExceptionTypes()) {
            all.append(' ').append(e == NoSuchElementException.class ? "NoSuchElementException" : e.getSimpleName());
        }
        return all.toString();
    }
}
