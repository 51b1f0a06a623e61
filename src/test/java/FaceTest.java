import java.lang.reflect.Constructor;
import java.lang.reflect.Field;
import java.lang.reflect.Method;
import java.lang.reflect.Modifier;
import java.util.Arrays;
import java.util.NoSuchElementException;
import java.util.TreeSet;

/** The public face: every constant, constructor and method of the document, and no others. */
public final class FaceTest {
    private static final String[] FACE = {
        "boolean end(int)",
        "boolean trip(int,int,int) IndexOutOfBoundsException IllegalArgumentException",
        "int boat(int,int,int) IndexOutOfBoundsException IllegalArgumentException UnsupportedOperationException",
        "int count(int)",
        "int counts(int,int,int) IndexOutOfBoundsException",
        "int fault()",
        "int feed(int,int,int,int,int)",
        "int field(int,int,int,int) IllegalArgumentException",
        "int flies(int,int) IndexOutOfBoundsException",
        "int gale(int,int,int,int) IndexOutOfBoundsException IllegalArgumentException UnsupportedOperationException",
        "int hours(int) IllegalArgumentException",
        "int look(int,int) IndexOutOfBoundsException NoSuchElementException",
        "int port(int,int,int,int) IllegalArgumentException UnsupportedOperationException",
        "int report(int,int,int,int) IndexOutOfBoundsException IllegalArgumentException UnsupportedOperationException",
        "int rules() IllegalArgumentException",
        "int score(int,int) IndexOutOfBoundsException NoSuchElementException",
        "int warning(int,int) IndexOutOfBoundsException NoSuchElementException",
    };

    public static void main(String[] args) {
        Check.all(FaceTest.class);
    }

    /** The public face: "public final class StormFlags". */
    private static void theClassIsPublicAndFinal() {
        int modifiers = StormFlags.class.getModifiers();
        Check.due("public", Modifier.isPublic(modifiers), true);
        Check.due("final", Modifier.isFinal(modifiers), true);
    }

    /** The public face: "public StormFlags();" */
    private static void thereIsOneConstructor() {
        Constructor<?>[] made = StormFlags.class.getDeclaredConstructors();
        Check.due("constructors", made.length, 1);
        Check.due("public", Modifier.isPublic(made[0].getModifiers()), true);
        Check.due("parameters", made[0].getParameterCount(), 0);
    }

    /** The public face: each method with what it takes, answers and throws, from "feed" to "count". */
    private static void theMethodsAreTheDocuments() {
        TreeSet<String> open = new TreeSet<>();
        for (Method m : StormFlags.class.getDeclaredMethods()) {
            if (!Modifier.isPrivate(m.getModifiers())) {
                open.add(told(m));
                Check.due(m + " is public and not static", m.getModifiers(), Modifier.PUBLIC);
            }
        }
        TreeSet<String> want = new TreeSet<>(Arrays.asList(FACE));
        if (!open.equals(want)) {
            System.out.println("the face has " + open + ", due is " + want);
        }
        Check.due("the face is the document's", open.equals(want), true);
    }

    /** LANGUAGE.md, rule 1: no private method bears the name of a public one. */
    private static void noPrivateMethodHasAPublicOnesName() {
        TreeSet<String> openNames = new TreeSet<>();
        for (Method m : StormFlags.class.getMethods()) {
            openNames.add(m.getName());
        }
        for (Method m : StormFlags.class.getDeclaredMethods()) {
            if (Modifier.isPrivate(m.getModifiers())) {
                Check.due("a private method bears the name of " + m.getName(), openNames.contains(m.getName()), false);
            }
        }
    }

    /** The public face: "public static final int NONE = -1;" */
    private static void noneIsTheOnlyConstant() {
        for (Field f : StormFlags.class.getDeclaredFields()) {
            if (!Modifier.isPrivate(f.getModifiers())) {
                Check.due("the field " + f.getName() + " is NONE", f.getName().equals("NONE"), true);
                Check.due("NONE's modifiers", f.getModifiers(), Modifier.PUBLIC | Modifier.STATIC | Modifier.FINAL);
            }
        }
        Check.due("NONE", StormFlags.NONE, -1);
    }

    /** LANGUAGE.md, rule 1: the classes inside are private or package-visible and static. */
    private static void theClassesInsideAreStatic() {
        for (Class<?> inside : StormFlags.class.getDeclaredClasses()) {
            int modifiers = inside.getModifiers();
            Check.due(inside + " is static", Modifier.isStatic(modifiers), true);
            Check.due(inside + " is open", Modifier.isPublic(modifiers) || Modifier.isProtected(modifiers), false);
        }
    }

    private static String told(Method m) {
        StringBuilder all = new StringBuilder();
        all.append(m.getReturnType().getSimpleName()).append(' ').append(m.getName()).append('(');
        for (int i = 0; i < m.getParameterCount(); i++) {
            all.append(i == 0 ? "" : ",").append(m.getParameterTypes()[i].getSimpleName());
        }
        all.append(')');
        for (Class<?> e : m.getExceptionTypes()) {
            all.append(' ').append(e == NoSuchElementException.class ? "NoSuchElementException" : e.getSimpleName());
        }
        return all.toString();
    }
}
