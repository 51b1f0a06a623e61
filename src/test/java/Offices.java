/** Objects in the states that the tests need. */
final class Offices {
    private Offices() {
    }

    /** From any hour at most ten calls lead to any other one. */
    static void hoursTo(StormFlags s, int hour) {
        int now = s.count(0);
        for (int i = 0; i < 10 && now < hour; i++) {
            now = s.hours(Math.min(200, hour - now));
        }
        Check.due("now", now, hour);
    }

    /** One port at 0, 0 of coast 0. */
    static StormFlags withPort(int wire) {
        StormFlags s = new StormFlags();
        s.port(0, 0, 0, wire);
        return s;
    }

    /** One port of coast 0; what the text sends at hour 10 is all that is ever sent. */
    static StormFlags warned(int wire, String text) {
        StormFlags s = withPort(wire);
        warn(s, text);
        return s;
    }

    /** Goes on to the next hour of the office with this text, and has no rules from then on. */
    static void warn(StormFlags s, String text) {
        Check.rules(s, text);
        int now = s.count(0);
        hoursTo(s, Math.max(10, (now + 6) / 8 * 8 + 2));
        Check.rules(s, "");
    }

    /** One port of coast 0 and wire 0, and a boat of it. */
    static StormFlags withBoat(int bold, int strength) {
        StormFlags s = withPort(0);
        s.boat(0, bold, strength);
        return s;
    }

    /**
     * Three ports of coasts 0 and 2, two boats that are to sail, two gales to come, reports, rules, and
     * a text on the tape that is not read yet; at hour 11, with four warnings of hour 10.
     */
    static void busy(StormFlags s) {
        s.port(3, 4, 0, 0);
        s.port(5, 4, 0, 5);
        s.port(9, 9, 2, 1);
        Check.rules(s, "cone low<9900; drum wind>7 and coast=0; drum coast=2");
        s.boat(0, 0, 9);
        s.boat(1, 2, 13);
        s.report(0, 0, 10100, 3);
        s.hours(8);
        s.report(0, 1, 9800, 9);
        s.report(1, 1, 9700, 5);
        s.gale(0, 20, 25, 9);
        s.gale(1, 13, 14, 12);
        s.hours(3);
        s.trip(0, 19, 5);
        s.trip(1, 12, 30);
        Check.type(s, "drum fall>12; cone low<9900");
    }

    /** What befalls a busy office next; whatever its state, these calls may be made. */
    static void later(StormFlags s) {
        s.hours(5);
        Check.thrownBy(s, x -> x.report(0, x.count(0) / 8, 9700, 8));
        s.hours(35);
    }
}
