import java.util.ArrayList;
import java.util.Arrays;
import java.util.List;
import java.util.NoSuchElementException;

/**
 * The document read once more, as plainly as can be and with no care for speed: a list of what
 * was told, from which nearly every answer is drawn anew. It shares no code with the class.
 */
final class Model {
    private static final List<String> NEEDED_SIGNS = Arrays.asList("fall>", "low<", "wind>", "coast=");

    /** One thing of a text, and where it begins. */
    private record Thing(int begin, String text) {
    }

    private record Condition(String word, int number) {
    }

    private record Rule(boolean drum, List<Condition> conditions) {
    }

    private record Port(int x, int y, int coast, int wire) {
    }

    private record Report(int port, int watch, int glass, int wind, int told) {
    }

    private record Warning(int hour, int coast, boolean drum, int rule, int ports) {
    }

    private record Gale(int port, int from, int to, int force) {
    }

    private static final class Boat {
        int port;
        int bold;
        int strength;
        boolean planned;
        int sails;
        int hours;
        boolean away;
        boolean lost;
        int lostAt;
        int sailed;
        int stayed;
    }

    private StringBuilder tape = new StringBuilder();
    private List<Rule> rules = new ArrayList<>();
    private int fault = -1;
    private int now = 0;
    private final List<Port> ports = new ArrayList<>();
    private final List<Report> reports = new ArrayList<>();
    private final List<Warning> warnings = new ArrayList<>();
    private final List<Gale> gales = new ArrayList<>();
    private final List<Boat> boats = new ArrayList<>();

    int feed(int... numbers) {
        StringBuilder longer = new StringBuilder(tape);
        for (int number : numbers) {
            for (byte b : java.nio.ByteBuffer.allocate(4).putInt(number).array()) {
                longer.append((char) Byte.toUnsignedInt(b));
            }
        }
        if (longer.length() > 400) {
            return -1;
        }
        tape = longer;
        return tape.length();
    }

    boolean end(int n) {
        if (n < 0 || tape.length() < n) {
            return false;
        }
        tape.setLength(n);
        return true;
    }

    int port(int x, int y, int coast, int wire) {
        refuse(out(x, 0, 15) || out(y, 0, 15) || out(coast, 0, 3) || out(wire, 0, 12));
        full(ports, 12);
        ports.add(new Port(x, y, coast, wire));
        return ports.size() - 1;
    }

    int report(int port, int watch, int glass, int wind) {
        missing(ports, port);
        refuse(out(watch, 0, 250) || out(glass, 9000, 10500) || out(wind, 0, 12));
        refuse(8 * watch > now);
        full(reports, 300);
        reports.add(new Report(port, watch, glass, wind, now));
        return reports.size() - 1;
    }

    int counts(int port, int watch, int hour) {
        missing(ports, port);
        int found = -1;
        for (int i = 0; i < reports.size(); i++) {
            Report r = reports.get(i);
            if (r.port == port && r.watch == watch && r.told + ports.get(port).wire <= hour) {
                found = i;
            }
        }
        return found;
    }

    int field(int x, int y, int watch, int hour) {
        refuse(out(x, 0, 15) || out(y, 0, 15));
        long above = 0;
        long below = 0;
        for (int i = 0; i < ports.size(); i++) {
            int counting = counts(i, watch, hour);
            if (counting >= 0) {
                long squares = (long) Math.pow(ports.get(i).x - x, 2) + (long) Math.pow(ports.get(i).y - y, 2);
                long weight = Math.max(1, 1000 / (1 + squares));
                above += weight * reports.get(counting).glass;
                below += weight;
            }
        }
        return below == 0 ? -1 : (int) (above / below);
    }

    int rules() {
        List<Rule> read = new ArrayList<>();
        fault = wrongByte(tape.toString(), read);
        tape.setLength(0);
        refuse(fault >= 0);
        rules = read;
        return rules.size();
    }

    int fault() {
        return fault;
    }

    /** Cut into things first, and then one thing after the other by what may come behind the one ahead. */
    private static int wrongByte(String text, List<Rule> read) {
        List<Thing> things = cut(text);
        if (things.isEmpty()) {
            return -1;
        }
        String may = "flag";
        String word = "";
        for (Thing t : things) {
            Rule last = read.isEmpty() ? null : read.get(read.size() - 1);
            if (may.equals("flag") && (t.text.equals("cone") || t.text.equals("drum")) && read.size() < 8) {
                read.add(new Rule(t.text.equals("drum"), new ArrayList<>()));
                may = "word";
            } else if (may.equals("word") && List.of("fall", "low", "wind", "coast").contains(t.text)) {
                word = t.text;
                may = "sign";
            } else if (may.equals("sign") && NEEDED_SIGNS.contains(word + t.text)) {
                may = "number";
            } else if (may.equals("number") && t.text.matches("[0-9]{1,5}")) {
                last.conditions.add(new Condition(word, Integer.parseInt(t.text)));
                may = "more";
            } else if (may.equals("more") && t.text.equals("and") && last.conditions.size() < 4) {
                may = "word";
            } else if (may.equals("more") && t.text.equals(";")) {
                may = "flag";
            } else {
                return t.begin;
            }
        }
        return may.equals("more") ? -1 : text.length();
    }

    private static List<Thing> cut(String text) {
        List<Thing> things = new ArrayList<>();
        java.util.regex.Matcher m = java.util.regex.Pattern
                .compile("[a-z]+|[0-9]+|[^ ]", java.util.regex.Pattern.DOTALL)
                .matcher(text);
        while (m.find()) {
            things.add(new Thing(m.start(), m.group()));
        }
        return things;
    }

    int gale(int port, int from, int to, int force) {
        missing(ports, port);
        refuse(from <= now || to < from || to > 2000 || out(force, 8, 12));
        full(gales, 30);
        gales.add(new Gale(port, from, to, force));
        return gales.size() - 1;
    }

    int boat(int port, int bold, int strength) {
        missing(ports, port);
        refuse(out(bold, 0, 2) || out(strength, 8, 13));
        full(boats, 12);
        Boat b = new Boat();
        b.port = port;
        b.bold = bold;
        b.strength = strength;
        boats.add(b);
        return boats.size() - 1;
    }

    boolean trip(int boat, int hour, int hours) {
        missing(boats, boat);
        refuse(hour <= now || hour > 2000 || out(hours, 1, 48));
        Boat b = boats.get(boat);
        if (b.planned || b.away || b.lost) {
            return false;
        }
        b.planned = true;
        b.sails = hour;
        b.hours = hours;
        return true;
    }

    int hours(int n) {
        refuse(out(n, 0, 200));
        for (int i = 0; i < n; i++) {
            if (now < 2000) {
                now++;
                for (int w = 1; w <= 250; w++) {
                    if (8 * w + 2 == now) {
                        office(w);
                    }
                }
                boats.forEach(this::sail);
            }
        }
        return now;
    }

    private void office(int w) {
        for (int coast = 0; coast < 4; coast++) {
            int here = coast;
            long members = ports.stream().filter(p -> p.coast == here).count();
            if (members > 0) {
                int x = (int) (ports.stream().filter(p -> p.coast == here).mapToInt(Port::x).sum() / members);
                int y = (int) (ports.stream().filter(p -> p.coast == here).mapToInt(Port::y).sum() / members);
                for (int i = 0; i < rules.size(); i++) {
                    boolean all = rules.get(i).conditions.stream().allMatch(c -> holds(c, here, x, y, w));
                    if (all && warnings.size() < 200) {
                        warnings.add(new Warning(now, coast, rules.get(i).drum, i, ports.size()));
                    }
                }
            }
        }
    }

    private boolean holds(Condition c, int coast, int x, int y, int w) {
        int before = field(x, y, w - 1, now);
        int after = field(x, y, w, now);
        if (c.word.equals("fall")) {
            return before >= 0 && after >= 0 && before - after > c.number;
        }
        if (c.word.equals("low")) {
            return after >= 0 && after < c.number;
        }
        if (c.word.equals("coast")) {
            return coast == c.number;
        }
        boolean some = false;
        for (int i = 0; i < ports.size(); i++) {
            int counting = counts(i, w, now);
            some |= ports.get(i).coast == coast && counting >= 0 && reports.get(counting).wind > c.number;
        }
        return some;
    }

    private void sail(Boat b) {
        if (b.away && now > b.sails + b.hours - 1) {
            b.away = false;
        }
        if (b.planned && b.sails == now) {
            b.planned = false;
            int seen = flies(b.port, now);
            boolean stays = seen >= 2 && b.bold < 2 || seen % 2 == 1 && b.bold < 1;
            b.stayed += stays ? 1 : 0;
            b.sailed += stays ? 0 : 1;
            b.away = !stays;
        }
        for (Gale g : gales) {
            if (b.away && g.port == b.port && g.from <= now && now <= g.to && g.force >= b.strength) {
                b.away = false;
                b.lost = true;
                b.lostAt = now;
            }
        }
    }

    /** The hours at which a warning flies at a port; none where it never goes there. */
    private List<Integer> flight(Warning w, int port) {
        List<Integer> hours = new ArrayList<>();
        if (port < w.ports && ports.get(port).coast == w.coast) {
            for (int i = 0; i < 24; i++) {
                hours.add(w.hour + ports.get(port).wire + i);
            }
        }
        return hours;
    }

    int flies(int port, int hour) {
        missing(ports, port);
        int cone = 0;
        int drum = 0;
        for (Warning w : warnings) {
            if (flight(w, port).contains(hour)) {
                drum = w.drum ? 2 : drum;
                cone = w.drum ? cone : 1;
            }
        }
        return cone + drum;
    }

    int warning(int warning, int what) {
        missing(warnings, warning);
        Warning w = warnings.get(warning);
        return chosen(what, w.hour, w.coast, w.drum ? 1 : 0, w.rule);
    }

    int look(int boat, int what) {
        missing(boats, boat);
        Boat b = boats.get(boat);
        int hour = b.lost ? b.lostAt : b.away ? b.sails + b.hours : b.planned ? b.sails : -1;
        return chosen(what, b.lost ? 3 : b.away ? 2 : b.planned ? 1 : 0, b.sailed, b.stayed, hour);
    }

    int score(int port, int what) {
        missing(ports, port);
        int warned = 0;
        int missed = 0;
        for (Gale g : gales) {
            if (g.port == port && g.from <= now) {
                warned += flies(port, g.from) > 0 ? 1 : 0;
                missed += flies(port, g.from) > 0 ? 0 : 1;
            }
        }
        int vain = 0;
        int came = 0;
        for (Warning w : warnings) {
            List<Integer> hours = flight(w, port);
            if (!hours.isEmpty() && hours.get(0) <= now) {
                came++;
                boolean blew = gales.stream().anyMatch(g -> g.port == port
                        && hours.stream().anyMatch(h -> g.from <= h && h <= g.to));
                vain += !blew && hours.get(23) < now ? 1 : 0;
            }
        }
        return chosen(what, warned, missed, vain, came);
    }

    int count(int what) {
        int lost = (int) boats.stream().filter(b -> b.lost).count();
        int away = (int) boats.stream().filter(b -> b.away).count();
        int[] all = {now, ports.size(), reports.size(), rules.size(), warnings.size(), gales.size(), boats.size(),
            lost, away};
        return what < 0 || what > 8 ? -1 : all[what];
    }

    private static int chosen(int what, int... of) {
        if (what < 0 || what > 3) {
            throw new NoSuchElementException();
        }
        return of[what];
    }

    private static boolean out(int n, int lowest, int highest) {
        return n < lowest || n > highest;
    }

    private static void refuse(boolean wrong) {
        if (wrong) {
            throw new IllegalArgumentException();
        }
    }

    private static void full(List<?> list, int most) {
        if (list.size() == most) {
            throw new UnsupportedOperationException();
        }
    }

    private static void missing(List<?> list, int number) {
        if (number < 0 || number >= list.size()) {
            throw new IndexOutOfBoundsException();
        }
    }
}
