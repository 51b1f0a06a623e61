import java.util.Random;
import java.util.function.LongSupplier;

/** Made-up runs of at most 512 calls each, always the same ones, against the plain model. */
public final class ModelTest {
    private static final int RUNS = 600;
    private static final int CALLS = 512;
    private static final int[] ODD = {-1, 0, 1, 2, 3, 4, 8, 12, 13, 14, 16, 2000, 2001, Check.LOWEST, Check.HIGHEST};

    private final Random random;
    private final String name;
    private final boolean wild;
    private final StormFlags tried = new StormFlags();
    private final Model model = new Model();
    private int calls = 0;

    private ModelTest(int run) {
        random = new Random(run);
        name = "run " + run;
        // Wild runs have many wrong arguments; the tame ones get further.
        wild = run % 4 == 0;
    }

    public static void main(String[] args) {
        for (int run = 1; run <= RUNS; run++) {
            new ModelTest(run).go();
        }
        Check.leave();
    }

    private void go() {
        int ports = below(12) + 1;
        for (int i = 0; i < ports; i++) {
            port();
        }
        text();
        while (calls < CALLS - 40) {
            step();
        }
        ask("the last now", () -> tried.count(0), () -> model.count(0));
    }

    private void step() {
        int pick = below(100);
        if (pick < 2) {
            port();
        } else if (pick < 4) {
            text();
        } else if (pick < 34) {
            report();
        } else if (pick < 38) {
            gale();
        } else if (pick < 41) {
            boat();
        } else if (pick < 49) {
            trip();
        } else if (pick < 62) {
            hours();
        } else {
            look();
        }
    }

    private int below(int bound) {
        return random.nextInt(Math.max(1, bound));
    }

    private int between(int lowest, int highest) {
        if (below(wild ? 12 : 400) == 0) {
            return ODD[below(ODD.length)];
        }
        if (below(wild ? 12 : 400) == 0) {
            return below(2) == 0 ? lowest - 1 : highest + 1;
        }
        return lowest + below(highest - lowest + 1);
    }

    private int now() {
        return model.count(0);
    }

    private int anyPort() {
        return between(0, model.count(1) - 1);
    }

    private int anyBoat() {
        return between(0, model.count(6) - 1);
    }

    /** A watch of late, so that the office has something to go by. */
    private int anyWatch() {
        int last = now() / 8;
        return between(Math.max(0, last - 2), last);
    }

    private void ask(String call, LongSupplier got, LongSupplier want) {
        calls++;
        Object g = answer(got);
        Object w = answer(want);
        if (!g.equals(w)) {
            System.out.println(name + ", call " + calls + ": " + call + " answered " + g + ", the model " + w);
            Check.due(name + " " + call, 0, 1);
        }
    }

    private static Object answer(LongSupplier call) {
        try {
            return call.getAsLong();
        } catch (RuntimeException e) {
            return Check.named(e);
        }
    }

    private void port() {
        int x = between(0, 15);
        int y = between(0, 15);
        int coast = between(0, 3);
        int wire = below(2) == 0 ? between(0, 2) : between(0, 12);
        ask("port", () -> tried.port(x, y, coast, wire), () -> model.port(x, y, coast, wire));
    }

    private void report() {
        int port = anyPort();
        int watch = anyWatch();
        int glass = between(9000, 10500);
        int wind = between(0, 12);
        ask("report(" + port + ", " + watch + ", " + glass + ", " + wind + ")",
                () -> tried.report(port, watch, glass, wind), () -> model.report(port, watch, glass, wind));
    }

    private void gale() {
        int port = anyPort();
        int from = between(now() + 1, now() + 40);
        int to = between(from, from + 20);
        int force = between(8, 12);
        ask("gale(" + port + ", " + from + ", " + to + ", " + force + ")",
                () -> tried.gale(port, from, to, force), () -> model.gale(port, from, to, force));
    }

    private void boat() {
        int port = anyPort();
        int bold = between(0, 2);
        int strength = between(8, 13);
        ask("boat", () -> tried.boat(port, bold, strength), () -> model.boat(port, bold, strength));
    }

    private void trip() {
        int boat = anyBoat();
        int hour = between(now() + 1, now() + 10);
        int hours = below(2) == 0 ? between(1, 5) : between(1, 48);
        ask("trip(" + boat + ", " + hour + ", " + hours + ")",
                () -> tried.trip(boat, hour, hours) ? 1 : 0, () -> model.trip(boat, hour, hours) ? 1 : 0);
    }

    private void hours() {
        int n = below(12) == 0 ? between(0, 200) : between(0, 8);
        ask("hours(" + n + ")", () -> tried.hours(n), () -> model.hours(n));
    }

    private void look() {
        int port = anyPort();
        int boat = anyBoat();
        int watch = anyWatch();
        int hour = between(Math.max(0, now() - 40), now() + 40);
        int what = between(0, 3);
        int warning = between(0, model.count(4) - 1);
        switch (below(7)) {
            case 0:
                ask("counts", () -> tried.counts(port, watch, hour), () -> model.counts(port, watch, hour));
                break;
            case 1:
                int x = between(0, 15);
                int y = between(0, 15);
                ask("field", () -> tried.field(x, y, watch, hour), () -> model.field(x, y, watch, hour));
                break;
            case 2:
                ask("flies(" + port + ", " + hour + ")", () -> tried.flies(port, hour), () -> model.flies(port, hour));
                break;
            case 3:
                ask("warning(" + warning + ", " + what + ")",
                        () -> tried.warning(warning, what), () -> model.warning(warning, what));
                break;
            case 4:
                ask("look(" + boat + ", " + what + ")", () -> tried.look(boat, what), () -> model.look(boat, what));
                break;
            case 5:
                ask("score(" + port + ", " + what + ")", () -> tried.score(port, what), () -> model.score(port, what));
                break;
            default:
                int total = between(0, 8);
                ask("count(" + total + ")", () -> tried.count(total), () -> model.count(total));
        }
    }

    /** A text of rules, now and then with a fault in it, fed and read. */
    private void text() {
        StringBuilder text = new StringBuilder();
        int rules = below(8) == 0 ? below(11) : below(4) + 1;
        for (int i = 0; i < rules; i++) {
            text.append(i == 0 ? "" : blanks() + ";" + blanks()).append(rule());
        }
        if (below(3) == 0) {
            spoil(text);
        }
        text.setLength(Math.min(text.length(), 380));
        feed(text.toString());
        ask("rules() of '" + text + "'", tried::rules, model::rules);
        ask("fault() of '" + text + "'", tried::fault, model::fault);
        ask("count(3)", () -> tried.count(3), () -> model.count(3));
    }

    private String rule() {
        StringBuilder rule = new StringBuilder(below(2) == 0 ? "cone " : "drum ");
        int conditions = below(8) == 0 ? below(5) + 1 : below(2) + 1;
        for (int i = 0; i < conditions; i++) {
            rule.append(i == 0 ? "" : blanks() + "and ").append(blanks()).append(condition());
        }
        return rule.toString();
    }

    private String condition() {
        String gap = blanks();
        switch (below(4)) {
            case 0: return "fall" + gap + ">" + gap + below(below(2) == 0 ? 100 : 1000);
            case 1: return "low" + gap + "<" + gap + (9000 + below(1500));
            case 2: return "wind" + gap + ">" + gap + below(13);
            default: return "coast" + gap + "=" + gap + below(5);
        }
    }

    private String blanks() {
        return " ".repeat(below(3) == 0 ? below(3) : 0);
    }

    private void spoil(StringBuilder text) {
        String signs = "abcdz  ;;<>=0123456789and\u0000\u00ff";
        int at = below(text.length());
        char sign = signs.charAt(below(signs.length()));
        int how = below(4);
        if (how == 0) {
            text.setLength(at);
        } else if (how == 1) {
            text.insert(at, sign);
        } else if (text.length() > 0 && how == 2) {
            text.setCharAt(at, sign);
        } else if (text.length() > 0) {
            text.deleteCharAt(at);
        }
    }

    private void feed(String text) {
        for (int at = 0; at < text.length(); at += 20) {
            int[] n = new int[5];
            for (int i = at; i < at + 20; i++) {
                n[(i - at) / 4] = n[(i - at) / 4] << 8 | (i < text.length() ? text.charAt(i) : 'x');
            }
            ask("feed", () -> tried.feed(n[0], n[1], n[2], n[3], n[4]), () -> model.feed(n[0], n[1], n[2], n[3], n[4]));
        }
        int length = text.length();
        ask("end", () -> tried.end(length) ? 1 : 0, () -> model.end(length) ? 1 : 0);
    }
}
