import java.util.ArrayList;
import java.util.List;

/** What the tests share: answers that are due, exceptions that are due, and texts on the tape. */
final class Check {
    /** A call, or a run of calls, on an object. */
    interface Run {
        void on(StormFlags s);
    }

    private static int wrong = 0;

    private Check() {
    }

    static void due(String call, long got, long want) {
        if (got != want) {
            wrong++;
            System.out.println(call + " answered " + got + ", due is " + want);
        }
    }

    static void due(String call, boolean got, boolean want) {
        due(call, got ? 1 : 0, want ? 1 : 0);
    }

    static void dueThrow(String call, StormFlags s, Run run, Class<? extends RuntimeException> want) {
        String got = thrownBy(s, run);
        if (!got.equals(want.getName())) {
            wrong++;
            System.out.println(call + " threw " + got + ", due is " + want.getName());
        }
    }

    static String thrownBy(StormFlags s, Run run) {
        try {
            run.on(s);
            return "nothing";
        } catch (RuntimeException e) {
            return named(e);
        }
    }

    /**
     * The very class, and whether the class under test threw it: the machine throws classes below
     * some of those that are promised, and a list of the library throws one of those itself.
     */
    static String named(RuntimeException e) {
        StackTraceElement[] trace = e.getStackTrace();
        String thrower = trace.length == 0 ? "the machine" : trace[0].getClassName();
        boolean own = thrower.equals("StormFlags") || thrower.startsWith("StormFlags$") || thrower.equals("Model");
        return own ? e.getClass().getName() : e.getClass().getName() + " by " + thrower;
    }

    /** Of two objects made alike one gets the call that throws: later answers must be the same. */
    static void dueThrowAndNoChange(String call, Run setup, Run run, Class<? extends RuntimeException> want) {
        StormFlags plain = new StormFlags();
        StormFlags tried = new StormFlags();
        setup.on(plain);
        setup.on(tried);
        dueThrow(call, tried, run, want);
        dueSame(call + " changed the object", seen(plain), seen(tried));
        plain.hours(40);
        tried.hours(40);
        dueSame(call + " changed what came later", seen(plain), seen(tried));
    }

    private static void dueSame(String what, List<Long> plain, List<Long> tried) {
        if (!plain.equals(tried)) {
            wrong++;
            System.out.println(what + ": " + plain + " against " + tried);
        }
    }

    /** Some answers of every kind; few enough to stay far below 512 calls. */
    static List<Long> seen(StormFlags s) {
        List<Long> all = new ArrayList<>();
        for (int what = 0; what <= 8; what++) {
            all.add((long) s.count(what));
        }
        int now = s.count(0);
        for (int port = 0; port < Math.min(3, s.count(1)); port++) {
            for (int what = 0; what <= 3; what++) {
                all.add((long) s.score(port, what));
            }
            all.add((long) s.flies(port, now));
            all.add((long) s.counts(port, now / 8, now + 12));
            all.add((long) s.counts(port, 0, 12));
        }
        for (int boat = 0; boat < Math.min(3, s.count(6)); boat++) {
            for (int what = 0; what <= 3; what++) {
                all.add((long) s.look(boat, what));
            }
        }
        for (int warning = 0; warning < Math.min(4, s.count(4)); warning++) {
            for (int what = 0; what <= 3; what++) {
                all.add((long) s.warning(warning, what));
            }
        }
        all.add((long) s.field(3, 4, 0, now + 12));
        all.add((long) s.field(3, 4, now / 8, now + 12));
        return all;
    }

    /** Puts a text on the tape behind what it has; its characters are bytes 0 to 255. */
    static void type(StormFlags s, String text) {
        int length = 0;
        for (int at = 0; at < text.length(); at += 20) {
            length = s.feed(numberAt(text, at), numberAt(text, at + 4), numberAt(text, at + 8),
                    numberAt(text, at + 12), numberAt(text, at + 16));
        }
        int padded = (text.length() + 19) / 20 * 20;
        s.end(length - padded + text.length());
    }

    private static int numberAt(String text, int at) {
        int number = 0;
        for (int i = at; i < at + 4; i++) {
            number = number << 8 | (i < text.length() ? text.charAt(i) : 0);
        }
        return number;
    }

    /** The text in place of all that the tape has: it must be right. */
    static int rules(StormFlags s, String text) {
        s.end(0);
        type(s, text);
        return s.rules();
    }

    static void dueRules(String text, int want) {
        StormFlags s = new StormFlags();
        type(s, text);
        int got = StormFlags.NONE;
        try {
            got = s.rules();
        } catch (IllegalArgumentException e) {
            System.out.println("'" + text + "' is refused at " + s.fault());
        }
        due("rules() of '" + text + "'", got, want);
        due("fault() of '" + text + "'", s.fault(), StormFlags.NONE);
        due("count(3) of '" + text + "'", s.count(3), want);
    }

    static void dueFault(String text, int want) {
        StormFlags s = new StormFlags();
        type(s, text);
        dueThrow("rules() of '" + text + "'", s, StormFlags::rules, IllegalArgumentException.class);
        due("fault() of '" + text + "'", s.fault(), want);
    }

    static void leave() {
        if (wrong > 0) {
            System.out.println(wrong + " wrong");
            System.exit(1);
        }
    }
}
