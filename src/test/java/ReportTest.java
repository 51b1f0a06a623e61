/** Promises 5 and 6, and the REPORTS and WATCHES of the terms. */
public final class ReportTest {
    public static void main(String[] args) {
        Check.all(ReportTest.class);
    }

    private static void reports(StormFlags s, int many) {
        s.port(3, 4, 0, 0);
        for (int i = 0; i < many; i++) {
            s.report(0, 0, 9000 + i, i % 13);
        }
    }

    /** Terms: "REPORTS (at most 300, numbered from 0 on)"; promise 5: "A REPORT: its number." */
    private static void reportsAreNumberedFrom0() {
        StormFlags s = Offices.withPort(0);
        s.port(1, 1, 1, 1);
        for (int i = 0; i < 200; i++) {
            Check.due("its number", s.report(i % 2, 0, 9500, 5), i);
            Check.due("reports", s.count(2), i + 1);
        }
    }

    /** Promise 5: "UnsupportedOperationException: there are 300.": with 299, 300, and 300 again. */
    private static void thereAreAtMost300() {
        StormFlags s = new StormFlags();
        reports(s, 299);
        Check.due("the 300th", s.report(0, 0, 9000, 0), 299);
        Check.dueThrow("a 301st", s, x -> x.report(0, 0, 9001, 0), UnsupportedOperationException.class);
        Check.dueThrow("a 301st again", s, x -> x.report(0, 0, 9001, 0), UnsupportedOperationException.class);
        Check.due("reports", s.count(2), 300);
        Check.due("the one that counts", s.counts(0, 0, 0), 299);
        Check.dueThrowAndNoChange("a 301st", x -> reports(x, 300), x -> x.report(0, 0, 9001, 0),
                UnsupportedOperationException.class);
    }

    /** Terms: "REPORTS (at most 300 ..)": each of 300, of 12 PORTS and 25 WATCHES, counts for its own. */
    private static void eachOf300IsKept() {
        for (int half = 0; half < 2; half++) {
            StormFlags s = new StormFlags();
            for (int port = 0; port < 12; port++) {
                s.port(port, 0, 0, port);
            }
            s.hours(192);
            for (int i = 0; i < 300; i++) {
                Check.due("its number", s.report(i % 12, i / 12, 9000 + i, 0), i);
            }
            for (int i = 150 * half; i < 150 * half + 150; i++) {
                Check.due("port " + i % 12 + ", watch " + i / 12, s.counts(i % 12, i / 12, 192 + i % 12), i);
            }
        }
    }

    /** The end of the terms: "IndexOutOfBoundsException: there is no such PORT"; promise 5. */
    private static void aReportIsOfAPort() {
        Check.dueIndex("report of port", Offices::busy, 3, (s, port) -> s.report(port, 1, 9500, 5));
        Check.dueIndex("report of no ports", s -> s.hours(1), 0, (s, port) -> s.report(port, 0, 9500, 5));
    }

    /** Terms: "GLASS (9000 to 10500)"; promise 5: "IllegalArgumentException: a number is none". */
    private static void glassIs9000To10500() {
        Check.dueRange("glass", Offices::busy, 9000, 10500, (s, glass) -> s.report(0, 1, glass, 0), 3);
    }

    /** Terms: "WIND (0 to 12)"; promise 5: "IllegalArgumentException: a number is none". */
    private static void windIs0To12() {
        Check.dueRange("wind", Offices::busy, 0, 12, (s, wind) -> s.report(0, 1, 9500, wind), 3);
    }

    /** Terms: "WATCH w (0 to 250)"; promise 5: "a number is none": at the last hour every WATCH is right. */
    private static void watchIs0To250() {
        Check.dueRange("watch", ReportTest::lastHour, 0, 250, (s, watch) -> s.report(0, watch, 9500, 5), 0);
    }

    private static void lastHour(StormFlags s) {
        s.port(3, 4, 0, 12);
        Offices.hoursTo(s, 2000);
    }

    /**
     * Terms: "WATCH w (0 to 250) is at the hour 8 w."; promise 5: "IllegalArgumentException: .. the WATCH is
     * behind NOW": the hour ahead of its own, its own, and the hour behind.
     */
    private static void aWatchIsToldFromItsHourOn() {
        for (int watch : new int[] {1, 2, 125, 249, 250}) {
            StormFlags s = Offices.withPort(0);
            Offices.hoursTo(s, 8 * watch - 1);
            Check.dueThrow("watch " + watch + " an hour ahead", s, x -> x.report(0, watch, 9500, 5),
                    IllegalArgumentException.class);
            s.hours(1);
            Check.due("watch " + watch + " at its hour", s.report(0, watch, 9500, 5), 0);
            s.hours(1);
            Check.due("watch " + watch + " an hour behind", s.report(0, watch, 9500, 5), 1);
        }
    }

    /** Terms: "for a WATCH that is not behind NOW": at hour 0 that is WATCH 0 alone. */
    private static void atHour0ThereIsWatch0() {
        Check.dueRange("watch at hour 0", s -> s.port(3, 4, 0, 0), 0, 0, (s, watch) -> s.report(0, watch, 9500, 5), 0);
    }

    /** Terms: "for a WATCH that is not behind NOW": at hour 11 that is WATCH 1 at last. */
    private static void atHour11ThereAreWatches0And1() {
        Check.dueRange("watch at hour 11", Offices::busy, 0, 1, (s, watch) -> s.report(0, watch, 9500, 5), 3);
    }

    /** Terms: "WATCH w (0 to 250) is at the hour 8 w": a WATCH whose 8 w wraps round to an early hour is none. */
    private static void aWatchDoesNotWrapRound() {
        for (int watch : new int[] {1 << 29, 1 << 30, (1 << 29) + 1, -(1 << 29), Check.LOWEST + 1}) {
            Check.dueThrowAndNoChange("watch " + watch, Offices::busy, s -> s.report(0, watch, 9500, 5),
                    IllegalArgumentException.class);
        }
    }

    /** Terms: "KNOWN from the hour in which it is told and WIRE on.": the hour ahead, the first, and all behind. */
    private static void aReportIsKnownWhenItsWireBringsIt() {
        for (int wire = 0; wire <= 12; wire++) {
            StormFlags s = Offices.withPort(wire);
            s.hours(9);
            s.report(0, 1, 9500, 5);
            Check.due("the hour ahead, wire " + wire, s.counts(0, 1, 9 + wire - 1), Check.NONE);
            Check.due("the hour, wire " + wire, s.counts(0, 1, 9 + wire), 0);
            Check.due("the hour behind, wire " + wire, s.counts(0, 1, 9 + wire + 1), 0);
            Check.due("the highest hour, wire " + wire, s.counts(0, 1, Check.HIGHEST), 0);
        }
    }

    /** Terms: "KNOWN from the hour in which it is told and WIRE on": beyond the last hour too. */
    private static void aReportMayBeKnownBeyondTheLastHour() {
        StormFlags s = new StormFlags();
        lastHour(s);
        s.report(0, 250, 9500, 5);
        Check.due("at the last hour", s.counts(0, 250, 2000), Check.NONE);
        Check.due("at hour 2011", s.counts(0, 250, 2011), Check.NONE);
        Check.due("at hour 2012", s.counts(0, 250, 2012), 0);
    }

    /** Terms: "Of several of one PORT and WATCH that are KNOWN at an hour the one told last counts." */
    private static void theOneToldLastCounts() {
        StormFlags s = Offices.withPort(3);
        s.report(0, 0, 9500, 1);
        s.hours(2);
        s.report(0, 0, 9600, 1);
        Check.due("neither is known", s.counts(0, 0, 2), Check.NONE);
        Check.due("the first alone is known", s.counts(0, 0, 3), 0);
        Check.due("the first alone is known still", s.counts(0, 0, 4), 0);
        Check.due("both are known", s.counts(0, 0, 5), 1);
        Check.due("both are known later", s.counts(0, 0, 6), 1);
    }

    /** Terms: "Of several .. the one told last counts": also of those told in one hour, however alike. */
    private static void ofOneHourTheOneToldLastCounts() {
        StormFlags s = Offices.withPort(0);
        for (int i = 0; i < 5; i++) {
            s.report(0, 0, 9500, 1);
            Check.due("of " + (i + 1), s.counts(0, 0, 0), i);
        }
    }

    /** Terms: "of one PORT and WATCH": the REPORTS of another PORT or WATCH count for nothing here. */
    private static void anotherPortOrWatchDoesNotCount() {
        StormFlags s = Offices.withPort(0);
        s.port(0, 0, 0, 0);
        s.port(0, 0, 0, 0);
        s.hours(8);
        s.report(0, 1, 9500, 1);
        s.report(1, 1, 9600, 1);
        s.report(1, 0, 9700, 1);
        Check.due("port 0, watch 0", s.counts(0, 0, 8), Check.NONE);
        Check.due("port 0, watch 1", s.counts(0, 1, 8), 0);
        Check.due("port 0, watch 2", s.counts(0, 2, 8), Check.NONE);
        Check.due("port 1, watch 0", s.counts(1, 0, 8), 2);
        Check.due("port 1, watch 1", s.counts(1, 1, 8), 1);
        Check.due("port 2, watch 1", s.counts(2, 1, 8), Check.NONE);
    }

    /** Promise 6: "The number of the REPORT that counts; NONE without one.": of the PORT, the WATCH, the hour. */
    private static void countsIsNoneWithoutOne() {
        StormFlags s = Offices.withPort(0);
        Check.due("no reports", s.counts(0, 0, 2000), Check.NONE);
        s.hours(4);
        s.report(0, 0, 9500, 1);
        Check.due("the hour ahead", s.counts(0, 0, 3), Check.NONE);
        Check.due("the hour -1", s.counts(0, 0, -1), Check.NONE);
        Check.due("the lowest hour", s.counts(0, 0, Check.LOWEST), Check.NONE);
        for (int watch : new int[] {Check.LOWEST, -1, 1, 250, 251, 1 << 29, Check.HIGHEST}) {
            Check.due("watch " + watch, s.counts(0, watch, 2000), Check.NONE);
        }
    }

    /** Promise 6; the end of the terms: "IndexOutOfBoundsException: there is no such PORT". */
    private static void countsIsOfAPort() {
        Check.dueIndex("counts of port", Offices::busy, 3, (s, port) -> s.counts(port, 0, 0));
        Check.dueIndex("counts of no ports", s -> s.hours(1), 0, (s, port) -> s.counts(port, 0, 0));
        Check.dueIndex("counts of port, no watch and no hour", Offices::busy, 3, (s, port) -> s.counts(port, -1, -1));
    }
}
