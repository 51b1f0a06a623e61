/** Promise 4, and the PORTS of the terms. */
public final class PortTest {
    public static void main(String[] args) {
        Check.all(PortTest.class);
    }

    private static void ports(StormFlags s, int many) {
        for (int i = 0; i < many; i++) {
            s.port(i, i, i % 4, i);
        }
    }

    /** Terms: "PORTS (at most 12, numbered from 0 on)"; promise 4: "A PORT: its number." */
    private static void portsAreNumberedFrom0() {
        StormFlags s = new StormFlags();
        for (int i = 0; i < 12; i++) {
            Check.due("ports ahead of it", s.count(1), i);
            Check.due("its number", s.port(7, 7, 1, 3), i);
        }
    }

    /** Promise 4: "UnsupportedOperationException: there are 12.": with 11, 12, and 12 again. */
    private static void thereAreAtMost12() {
        StormFlags s = new StormFlags();
        ports(s, 11);
        Check.due("the 12th", s.port(0, 0, 0, 0), 11);
        Check.dueThrow("a 13th", s, x -> x.port(0, 0, 0, 0), UnsupportedOperationException.class);
        Check.dueThrow("a 13th again", s, x -> x.port(15, 15, 3, 12), UnsupportedOperationException.class);
        Check.due("ports", s.count(1), 12);
        Check.dueThrowAndNoChange("a 13th", x -> ports(x, 12), x -> x.port(0, 0, 0, 0),
                UnsupportedOperationException.class);
    }

    /** Terms: "a place (x and y, 0 to 15)"; promise 4: "IllegalArgumentException: a number is none". */
    private static void xIs0To15() {
        Check.dueRange("x", Offices::busy, 0, 15, (s, x) -> s.port(x, 0, 0, 0), 3);
    }

    /** Terms: "a place (x and y, 0 to 15)"; promise 4: "IllegalArgumentException: a number is none". */
    private static void yIs0To15() {
        Check.dueRange("y", Offices::busy, 0, 15, (s, y) -> s.port(0, y, 0, 0), 3);
    }

    /** Terms: "a COAST (0 to 3)"; promise 4: "IllegalArgumentException: a number is none". */
    private static void coastIs0To3() {
        Check.dueRange("coast", Offices::busy, 0, 3, (s, coast) -> s.port(0, 0, coast, 0), 3);
    }

    /** Terms: "a WIRE (0 to 12 hours)"; promise 4: "IllegalArgumentException: a number is none". */
    private static void wireIs0To12() {
        Check.dueRange("wire", Offices::busy, 0, 12, (s, wire) -> s.port(0, 0, 0, wire), 3);
    }

    /** Terms: "PORTS ..: a place (x and y ..)": two PORTS may have one place, at each corner. */
    private static void twoPortsMayHaveOnePlace() {
        StormFlags s = new StormFlags();
        int[][] corners = {{0, 0}, {15, 0}, {0, 15}, {15, 15}};
        for (int i = 0; i < corners.length; i++) {
            Check.due("the first", s.port(corners[i][0], corners[i][1], 0, 0), 2 * i);
            Check.due("the second", s.port(corners[i][0], corners[i][1], 0, 0), 2 * i + 1);
        }
    }

    /** Terms: "a place (x and y, 0 to 15), a COAST (0 to 3), a WIRE (0 to 12 hours)": as told, at any hour. */
    private static void aPortIsAsToldAtAnyHour() {
        for (int hour : new int[] {0, 8, 800, 1976}) {
            StormFlags s = new StormFlags();
            Offices.hoursTo(s, hour);
            s.port(0, 0, 1, 0);
            s.port(9, 4, 2, 5);
            s.report(0, hour / 8, 9000, 0);
            s.report(1, hour / 8, 10000, 0);
            Check.due("its wire at " + hour, s.counts(1, hour / 8, hour + 4), Check.NONE);
            Check.due("its wire's end at " + hour, s.counts(1, hour / 8, hour + 5), 1);
            // At 8, 4 the weights are 1000 by 81 and 1000 by 2, at 9, 5 they are 1000 by 107 and 1000 by 2.
            Check.due("its x at " + hour, s.field(8, 4, hour / 8, hour + 5), (9000 * 12 + 10000 * 500) / 512);
            Check.due("its y at " + hour, s.field(9, 5, hour / 8, hour + 5), (9000 * 9 + 10000 * 500) / 509);
            Offices.warn(s, "cone coast=2");
            Check.due("its coast at " + hour, s.warning(0, 1), 2);
            Check.due("its flag at " + hour, s.flies(1, s.warning(0, 0) + 5), 1);
        }
    }

    /** Promise 4: "A PORT: its number.": at any hour, at the last one too. */
    private static void aPortMayComeAtTheLastHour() {
        StormFlags s = new StormFlags();
        Offices.hoursTo(s, 2000);
        Check.due("a port at hour 2000", s.port(0, 0, 0, 0), 0);
    }
}
