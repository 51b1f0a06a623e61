import java.io.IOException;
import java.lang.reflect.Executable;
import java.lang.reflect.Field;
import java.lang.reflect.Modifier;
import java.nio.file.Files;
import java.nio.file.Path;
import java.util.ArrayList;
import java.util.Arrays;
import java.util.List;
import java.util.Set;
import java.util.regex.Matcher;
import java.util.regex.Pattern;

/** What can be seen of ../shared/LANGUAGE.md in the class and in its file, from the project's own directory. */
public final class LanguageTest {
    private static final Path FILE = Path.of("src/main/java/StormFlags.java");
    // What the class uses so far; rule 4 allows more, which may be added here when it is needed.
    private static final Set<String> IMPORTS = Set.of("java.util.ArrayList", "java.util.NoSuchElementException");
    private static final Set<String> LIBRARY = Set.of("Math.max");
    private static final Set<String> ON_OBJECTS = Set.of("add", "get", "size", "length", "charAt");
    private static final Set<String> THROWN = Set.of("IllegalArgumentException", "IndexOutOfBoundsException",
            "UnsupportedOperationException", "NoSuchElementException");

    public static void main(String[] args) {
        Check.all(LanguageTest.class);
    }

    /** The file without its remarks; its texts and signs are left empty where they are not asked for. */
    private static String source(boolean withTexts) {
        try {
            String bare = Files.readString(FILE).replaceAll("(?s)/\\*.*?\\*/", "").replaceAll("//[^\n]*", "");
            return withTexts ? bare : bare.replaceAll("\"[^\"]*\"", "\"\"").replaceAll("'[^']*'", "' '");
        } catch (IOException e) {
            throw new IllegalStateException(FILE + " cannot be read", e);
        }
    }

    private static List<String> found(String pattern, String text) {
        List<String> all = new ArrayList<>();
        Matcher m = Pattern.compile(pattern).matcher(text);
        while (m.find()) {
            all.add(m.groupCount() > 0 ? m.group(1) : m.group());
        }
        return all;
    }

    private static void dueNothing(String pattern) {
        List<String> all = found(pattern, source(false));
        Check.due("'" + pattern + "' in the file, " + all, all.size(), 0);
    }

    private static void dueAmong(String what, List<String> all, Set<String> right) {
        for (String one : all) {
            Check.due(what + " " + one + " is one of " + right, right.contains(one), true);
        }
    }

    private static List<Class<?>> classes() {
        List<Class<?>> all = new ArrayList<>();
        all.add(StormFlags.class);
        all.addAll(Arrays.asList(StormFlags.class.getDeclaredClasses()));
        return all;
    }

    /** The head of LANGUAGE.md: without a package line; rule 4: no library but what stands there. */
    private static void theFileHasNoPackageAndFewImports() {
        dueNothing("\\bpackage\\b");
        dueAmong("import", found("\\bimport\\s+([\\w.*]+)", source(false)), IMPORTS);
    }

    /** Rule 2: no lambda, no method reference. */
    private static void thereAreNoLambdas() {
        dueNothing("->");
        dueNothing("::");
    }

    /** Rule 4: of the library's functions and methods only those that stand there. */
    private static void onlyTheLibraryThatIsAllowed() {
        Set<String> own = new java.util.TreeSet<>();
        for (Class<?> c : classes()) {
            own.add(c.getSimpleName());
            Arrays.stream(c.getDeclaredMethods()).forEach(m -> own.add(m.getName()));
        }
        List<String> calls = found("\\b([A-Z]\\w*\\.\\w+)\\(", source(false));
        calls.removeIf(call -> own.contains(call.substring(0, call.indexOf('.'))));
        dueAmong("call", calls, LIBRARY);
        List<String> onObjects = found("\\b[a-z]\\w*\\.(\\w+)\\(", source(false));
        onObjects.removeIf(own::contains);
        dueAmong("call", onObjects, ON_OBJECTS);
        dueAmong("list", found("\\bArrayList<(\\w*)>", source(false)), Set.of("Port", "Warning", "Gale", "Boat"));
    }

    /** Rule 5: static fields are final constants, and there is no static initialiser. */
    private static void staticFieldsAreConstants() {
        for (Class<?> c : classes()) {
            for (Field f : c.getDeclaredFields()) {
                if (Modifier.isStatic(f.getModifiers())) {
                    Check.due(f + " is final", Modifier.isFinal(f.getModifiers()), true);
                    Check.due(f + " is an int", f.getType() == int.class, true);
                }
            }
        }
        dueNothing("\\bstatic\\s*\\{");
    }

    /** Rule 6: throw new E("a written text"), E one of those that the document's calls name; nothing is caught. */
    private static void onlyWrittenExceptionsAreThrown() {
        List<String> thrown = found("\\bthrow\\b\\s*(.*);", source(true));
        Check.due("throws", thrown.size() > 0, true);
        for (String one : thrown) {
            Matcher m = Pattern.compile("new (\\w+)\\(\"[^\"]+\"\\)").matcher(one);
            Check.due(one + " is as it must be", m.matches() && THROWN.contains(m.group(1)), true);
        }
        dueNothing("\\b(try|catch|finally|synchronized|assert)\\b");
    }

    /** Rule 6: no equals, hashCode or toString of own objects, no cast, and never == of two texts. */
    private static void noObjectIsAskedForItsIdentity() {
        dueNothing("\\b(equals|hashCode|toString|getClass|instanceof)\\b");
        dueNothing("[=!]= *\"\"|\"\" *[=!]=");
    }

    /** Rule 10: texts are not joined by +. */
    private static void textsAreNotJoined() {
        dueNothing("\"\"\\s*\\+|\\+\\s*\"\"");
    }

    /** Rule 11: at most seven parameters, some twelve classes, some twenty fields beside the constants. */
    private static void nothingIsTooBig() {
        Check.due("at most 12 classes", classes().size() <= 12, true);
        for (Class<?> c : classes()) {
            List<Field> fields = new ArrayList<>(Arrays.asList(c.getDeclaredFields()));
            fields.removeIf(f -> Modifier.isStatic(f.getModifiers()));
            Check.due(c + " has at most 20 fields", fields.size() <= 20, true);
            List<Executable> calls = new ArrayList<>(Arrays.asList(c.getDeclaredMethods()));
            calls.addAll(Arrays.asList(c.getDeclaredConstructors()));
            for (Executable e : calls) {
                Check.due(e + " has at most 7 parameters", e.getParameterCount() <= 7, true);
            }
        }
    }

    /** Rule 11: methods stay short. */
    private static void methodsAreShort() {
        String method = "(?s)\n(( {4}| {8})\\w[^\n;=]*\\([^;{]*\\{\n.*?\n\\2\\}\n)";
        List<String> bodies = found(method, source(false));
        Check.due("methods are found", bodies.size() > 40, true);
        for (String body : bodies) {
            Check.due(body.strip().split("\n")[0] + " has at most 60 lines", body.split("\n").length <= 60, true);
        }
    }

    /** Rule 13: no clock, no randomness, no file, network, thread or environment; System is not used at all. */
    private static void nothingComesFromOutside() {
        dueNothing("\\b(System|Runtime|Thread|Random|Files|Date|Instant|Scanner|Class)\\b");
    }
}
