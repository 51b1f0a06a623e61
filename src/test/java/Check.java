import java.lang.reflect.InvocationTargetException;
import java.lang.reflect.Method;
import java.lang.reflect.Modifier;
import java.util.ArrayList;
import java.util.Arrays;
import java.util.Comparator;
import java.util.List;
import java.util.TreeSet;

/** What the tests share: answers that are due, exceptions that are due, and texts on the tape. */
final class Check {
    /** A call, or a run of calls, on an object. */
    interface Run {
        void on(StormFlags s);
    }

    /** A call of which one number is left open. */
    interface Ask {
        int on(StormFlags s, int number);
    }

    static final int NONE = StormFlags.NONE;
    static final int LOWEST = Integer.MIN_VALUE;
    static final int HIGHEST = Integer.MAX_VALUE;

    private static String test = "";
    private static int wrong = 0;

    private Check() {
    }

    /** Runs every method of a class that looks like a test, so that none can be forgotten, and leaves. */
    static void all(Class<?> tests) {
        Method[] methods = tests.getDeclaredMethods();
        Arrays.sort(methods, Comparator.comparing(Method::getName));
        int found = 0;
        for (Method m : methods) {
            if (isTest(m)) {
                found++;
                run(m);
            }
        }
        due("tests in " + tests.getName(), found > 0, true);
        System.out.println(tests.getName() + ": " + found + " tests");
        leave();
    }

    private static boolean isTest(Method m) {
        return Modifier.isPrivate(m.getModifiers()) && Modifier.isStatic(m.getModifiers()) && !m.isSynthetic()
                && m.getReturnType() == void.class && m.getParameterCount() == 0;
    }

    private static void run(Method m) {
        test = m.getName() + ": ";
        m.setAccessible(true);
        try {
            m.invoke(null);
        } catch (InvocationTargetException e) {
            fail("threw " + e.getCause());
            e.getCause().printStackTrace(System.out);
        } catch (IllegalAccessException e) {
            fail("cannot be called");
        }
        test = "";
    }

    private static void fail(String what) {
        wrong++;
        System.out.println(test + what);
    }

    static void leave() {
        if (wrong > 0) {
            System.out.println(wrong + " wrong");
            System.exit(1);
        }
    }

    static void due(String call, long got, long want) {
        if (got != want) {
            fail(call + " answered " + got + ", due is " + want);
        }
    }

    static void due(String call, boolean got, boolean want) {
        due(call, got ? 1 : 0, want ? 1 : 0);
    }

    static void dueThrow(String call, StormFlags s, Run run, Class<? extends RuntimeException> want) {
        String got = thrownBy(s, run);
        if (!got.equals(want.getName())) {
            fail(call + " threw " + got + ", due is " + want.getName());
        }
    }

    static String thrownBy(StormFlags s, Run run) {
        try {
            run.on(s);
            return "nothing";
        } catch (RuntimeException e) {
            return named(e);
        }
    }

    /**
     * The very class, and whether the class under test threw it: the machine throws classes below
     * some of those that are promised, and a list of the library throws one of those itself.
     */
    static String named(RuntimeException e) {
        StackTraceElement[] trace = e.getStackTrace();
        String thrower = trace.length == 0 ? "the machine" : trace[0].getClassName();
        boolean own = thrower.equals("StormFlags") || thrower.startsWith("StormFlags$") || thrower.equals("Model");
        return own ? e.getClass().getName() : e.getClass().getName() + " by " + thrower;
    }

    /** A number that a call takes: right from lowest to highest, refused next to both and far away. */
    static void dueRange(String name, Run setup, int lowest, int highest, Ask call, int answer) {
        for (int right : around(lowest, highest)) {
            if (lowest <= right && right <= highest) {
                StormFlags s = new StormFlags();
                setup.on(s);
                due(name + " " + right, call.on(s, right), answer);
            } else {
                dueThrowAndNoChange(name + " " + right, setup, s -> call.on(s, right), IllegalArgumentException.class);
            }
        }
    }

    /** The number of a thing of which there are so many: right from 0 on, refused at that many and far away. */
    static void dueIndex(String name, Run setup, int many, Ask call) {
        for (int index : around(0, many - 1)) {
            if (0 <= index && index < many) {
                StormFlags s = new StormFlags();
                setup.on(s);
                due(name + " " + index + " is there", thrownBy(s, x -> call.on(x, index)).equals("nothing"), true);
            } else {
                dueThrowAndNoChange(name + " " + index, setup, s -> call.on(s, index), IndexOutOfBoundsException.class);
            }
        }
    }

    private static TreeSet<Integer> around(int lowest, int highest) {
        return new TreeSet<>(Arrays.asList(LOWEST, lowest - 1, lowest, lowest + 1, highest - 1, highest, highest + 1,
                HIGHEST));
    }

    /** Of two objects made alike one gets the call that throws: all later answers must be the same. */
    static void dueThrowAndNoChange(String call, Run setup, Run run, Class<? extends RuntimeException> want) {
        dueNoChange(call, setup, s -> dueThrow(call, s, run, want));
    }

    /** Of two objects made alike one gets the calls that must do nothing: all later answers must be the same. */
    static void dueNoChange(String call, Run setup, Run idle) {
        StormFlags plain = new StormFlags();
        StormFlags tried = new StormFlags();
        setup.on(plain);
        setup.on(tried);
        idle.on(tried);
        dueSame(call + " changed the object", seen(plain), seen(tried));
        Offices.later(plain);
        Offices.later(tried);
        dueSame(call + " changed what came later", seen(plain), seen(tried));
        dueSame(call + " changed the tape", tapeOf(plain), tapeOf(tried));
    }

    static void dueSame(String what, List<Long> plain, List<Long> tried) {
        if (!plain.equals(tried)) {
            fail(what + ": " + plain + " against " + tried);
        }
    }

    /** Some answers of every kind; few enough to stay far below 512 calls. */
    static List<Long> seen(StormFlags s) {
        List<Long> all = new ArrayList<>();
        for (int what = 0; what <= 8; what++) {
            all.add((long) s.count(what));
        }
        all.add((long) s.fault());
        int now = s.count(0);
        for (int port = 0; port < Math.min(3, s.count(1)); port++) {
            for (int what = 0; what <= 3; what++) {
                all.add((long) s.score(port, what));
            }
            all.add((long) s.flies(port, now));
            all.add((long) s.counts(port, now / 8, now + 12));
            all.add((long) s.counts(port, 0, 12));
        }
        for (int boat = 0; boat < Math.min(3, s.count(6)); boat++) {
            for (int what = 0; what <= 3; what++) {
                all.add((long) s.look(boat, what));
            }
        }
        for (int warning = 0; warning < Math.min(4, s.count(4)); warning++) {
            for (int what = 0; what <= 3; what++) {
                all.add((long) s.warning(warning, what));
            }
        }
        all.add((long) s.field(3, 4, 0, now + 12));
        all.add((long) s.field(3, 4, now / 8, now + 12));
        return all;
    }

    /** How many bytes the tape has, and how they read; it is used up by this. */
    private static List<Long> tapeOf(StormFlags s) {
        List<Long> all = new ArrayList<>();
        all.add((long) s.feed(0x20202020, 0x20202020, 0x20202020, 0x20202020, 0x20202020));
        all.add(thrownBy(s, StormFlags::rules).equals("nothing") ? 1L : 0L);
        all.add((long) s.fault());
        all.add((long) s.count(3));
        return all;
    }

    /** Puts a text on the tape behind what it has; its characters are bytes 0 to 255. */
    static void type(StormFlags s, String text) {
        int length = 0;
        for (int at = 0; at < text.length(); at += 20) {
            length = s.feed(numberAt(text, at), numberAt(text, at + 4), numberAt(text, at + 8),
                    numberAt(text, at + 12), numberAt(text, at + 16));
        }
        int padded = (text.length() + 19) / 20 * 20;
        s.end(length - padded + text.length());
    }

    private static int numberAt(String text, int at) {
        int number = 0;
        for (int i = at; i < at + 4; i++) {
            number = number << 8 | (i < text.length() ? text.charAt(i) : 0);
        }
        return number;
    }

    /** The text in place of all that the tape has: it must be right. */
    static int rules(StormFlags s, String text) {
        s.end(0);
        type(s, text);
        return s.rules();
    }

    static void dueRules(String text, int want) {
        StormFlags s = new StormFlags();
        type(s, text);
        int got = NONE;
        try {
            got = s.rules();
        } catch (IllegalArgumentException e) {
            System.out.println("'" + text + "' is refused at " + s.fault());
        }
        due("rules() of '" + text + "'", got, want);
        due("fault() of '" + text + "'", s.fault(), NONE);
        due("count(3) of '" + text + "'", s.count(3), want);
    }

    static void dueFault(String text, int want) {
        StormFlags s = new StormFlags();
        type(s, text);
        dueThrow("rules() of '" + text + "'", s, StormFlags::rules, IllegalArgumentException.class);
        due("fault() of '" + text + "'", s.fault(), want);
        due("count(3) of '" + text + "'", s.count(3), 0);
    }

    static void dueWarning(StormFlags s, int number, int hour, int coast, int flag, int rule) {
        int[] want = {hour, coast, flag, rule};
        for (int what = 0; what < want.length; what++) {
            due("warning(" + number + ", " + what + ")", s.warning(number, what), want[what]);
        }
    }

    static void dueLook(StormFlags s, int boat, int state, int sailed, int stayed, int hour) {
        int[] want = {state, sailed, stayed, hour};
        for (int what = 0; what < want.length; what++) {
            due("look(" + boat + ", " + what + ") at " + s.count(0), s.look(boat, what), want[what]);
        }
    }

    static void dueScore(StormFlags s, int port, int warned, int missed, int vain, int came) {
        int[] want = {warned, missed, vain, came};
        for (int what = 0; what < want.length; what++) {
            due("score(" + port + ", " + what + ") at " + s.count(0), s.score(port, what), want[what]);
        }
    }
}
