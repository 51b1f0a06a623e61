/** Promise 10, and the GALES of the terms. */
public final class GaleTest {
    public static void main(String[] args) {
        Check.all(GaleTest.class);
    }

    private static void gales(StormFlags s, int many) {
        s.port(3, 4, 0, 0);
        for (int i = 0; i < many; i++) {
            s.gale(0, i + 1, i + 3, 8 + i % 5);
        }
    }

    /** Section 3: "GALES (at most 30, numbered from 0 on)"; promise 10: "A GALE: its number." */
    private static void galesAreNumberedFrom0() {
        StormFlags s = Offices.withPort(0);
        s.port(1, 1, 1, 1);
        for (int i = 0; i < 30; i++) {
            Check.due("gales ahead of it", s.count(5), i);
            Check.due("its number", s.gale(i % 2, 5, 6, 9), i);
        }
    }

    /** Promise 10: "UnsupportedOperationException: there are 30.": with 29, 30, and 30 again; past ones count too. */
    private static void thereAreAtMost30() {
        StormFlags s = new StormFlags();
        gales(s, 29);
        s.hours(50);
        Check.due("the 30th", s.gale(0, 51, 51, 8), 29);
        Check.dueThrow("a 31st", s, x -> x.gale(0, 51, 51, 8), UnsupportedOperationException.class);
        s.hours(50);
        Check.dueThrow("a 31st again", s, x -> x.gale(0, 101, 101, 8), UnsupportedOperationException.class);
        Check.due("gales", s.count(5), 30);
        Check.dueThrowAndNoChange("a 31st", x -> gales(x, 30), x -> x.gale(0, 10, 10, 8),
                UnsupportedOperationException.class);
    }

    /** Promise 10; the end of the terms: "IndexOutOfBoundsException: there is no such PORT". */
    private static void aGaleIsAtAPort() {
        Check.dueIndex("gale at port", Offices::busy, 3, (s, port) -> s.gale(port, 12, 12, 8));
        Check.dueIndex("gale at no ports", s -> s.hours(1), 0, (s, port) -> s.gale(port, 12, 12, 8));
    }

    /** Section 3: "from an hour behind NOW"; promise 10: "IllegalArgumentException: an hour .. is none": NOW is 11. */
    private static void fromIsBehindNow() {
        Check.dueRange("from", Offices::busy, 12, 2000, (s, from) -> s.gale(0, from, 2000, 8), 2);
    }

    /** Section 3: "from an hour behind NOW": with NOW at first and at last. */
    private static void fromAtTheFirstAndTheLastHour() {
        Check.dueRange("from at hour 0", s -> s.port(3, 4, 0, 0), 1, 2000, (s, from) -> s.gale(0, from, 2000, 8), 0);
        StormFlags s = Offices.withPort(0);
        Offices.hoursTo(s, 1999);
        Check.dueThrow("from 1999 at 1999", s, x -> x.gale(0, 1999, 2000, 8), IllegalArgumentException.class);
        Check.due("from 2000 at 1999", s.gale(0, 2000, 2000, 8), 0);
        s.hours(1);
        Check.dueThrow("from 2000 at 2000", s, x -> x.gale(0, 2000, 2000, 8), IllegalArgumentException.class);
        Check.dueThrow("from 2001 at 2000", s, x -> x.gale(0, 2001, 2001, 8), IllegalArgumentException.class);
    }

    /** Section 3: "to an hour (not ahead of it, 2000 at most"; promise 10: "an hour .. is none". */
    private static void toIsNotAheadAnd2000AtMost() {
        Check.dueRange("to, from 15", Offices::busy, 15, 2000, (s, to) -> s.gale(0, 15, to, 8), 2);
        Check.dueRange("to, from 2000", Offices::busy, 2000, 2000, (s, to) -> s.gale(0, 2000, to, 8), 2);
    }

    /** Section 3: "a FORCE (8 to 12)"; promise 10: "IllegalArgumentException: an hour or FORCE is none". */
    private static void forceIs8To12() {
        Check.dueRange("force", Offices::busy, 8, 12, (s, force) -> s.gale(0, 12, 12, force), 2);
    }

    /** Section 3: "from an hour .. to an hour (..; that one too)": what befalls a BOAT at sea in each hour. */
    private static void aGaleGoesOnFromItsFirstHourToItsLast() {
        int[] sails = {3, 4, 5, 6, 7, 8};
        boolean[] lost = {false, true, true, true, false, false};
        for (int i = 0; i < sails.length; i++) {
            StormFlags s = Offices.withBoat(0, 8);
            s.gale(0, 4, 6, 8);
            s.trip(0, sails[i], 1);
            s.hours(10);
            Check.due("out in hour " + sails[i] + " alone", s.look(0, 0) == 3, lost[i]);
        }
    }

    /** Section 3: "at a PORT, from an hour behind NOW to an hour", "a FORCE (8 to 12)": as told, at any hour. */
    private static void aGaleIsAsToldAtAnyHour() {
        for (int hour : new int[] {0, 13, 777, 1990}) {
            StormFlags s = new StormFlags();
            s.port(0, 0, 0, 0);
            s.port(0, 0, 0, 0);
            Offices.hoursTo(s, hour);
            for (int strength = 9; strength <= 12; strength++) {
                s.boat(1, 2, strength);
                s.trip(strength - 9, hour + 1, 9);
            }
            s.boat(1, 2, 8);
            s.trip(4, hour + 6, 1);
            s.gale(1, hour + 4, hour + 5, 10);
            s.hours(3);
            Check.due("lost ahead of it, at " + hour, s.count(7), 0);
            s.hours(1);
            Check.due("lost in its first hour, at " + hour, s.count(7), 2);
            s.hours(2);
            Check.due("lost behind it, at " + hour, s.count(7), 2);
            Check.dueScore(s, 0, 0, 0, 0, 0);
            Check.dueScore(s, 1, 0, 1, 0, 0);
        }
    }

    /** Section 3: "(not ahead of it, ..; that one too)": a GALE of one hour goes on in it. */
    private static void aGaleMayHaveOneHour() {
        for (int sails = 4; sails <= 6; sails++) {
            StormFlags s = Offices.withBoat(0, 8);
            s.gale(0, 5, 5, 8);
            s.trip(0, sails, 1);
            s.hours(10);
            Check.due("out in hour " + sails + " alone", s.look(0, 0) == 3, sails == 5);
        }
    }

    /** Section 3: "2000 at most; that one too": a GALE goes on in the last hour. */
    private static void aGaleMayGoOnInTheLastHour() {
        StormFlags s = Offices.withBoat(0, 8);
        s.gale(0, 2000, 2000, 8);
        s.trip(0, 1999, 48);
        Offices.hoursTo(s, 1999);
        Check.due("at sea at 1999", s.look(0, 0), 2);
        s.hours(1);
        Check.dueLook(s, 0, 3, 1, 0, 2000);
        Check.dueScore(s, 0, 0, 1, 0, 0);
    }
}
