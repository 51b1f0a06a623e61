import java.util.NoSuchElementException;

/** Promises 11, 12 and 16, BOATS and TRIPS, and what an hour does to a BOAT. */
public final class BoatTest {
    public static void main(String[] args) {
        Check.all(BoatTest.class);
    }

    private static void boats(StormFlags s, int many) {
        s.port(3, 4, 0, 0);
        for (int i = 0; i < many; i++) {
            s.boat(0, i % 3, 8 + i % 6);
        }
    }

    /** Section 3: "BOATS (at most 12, numbered from 0 on)"; promise 11: "A BOAT, at home: its number." */
    private static void boatsAreNumberedFrom0() {
        StormFlags s = Offices.withPort(0);
        s.port(1, 1, 1, 1);
        for (int i = 0; i < 12; i++) {
            Check.due("boats ahead of it", s.count(6), i);
            Check.due("its number", s.boat(i % 2, 1, 10), i);
            Check.dueLook(s, i, 0, 0, 0, Check.NONE);
        }
    }

    /** Promise 11: "UnsupportedOperationException: there are 12.": with 11, 12, and 12 again; LOST ones count too. */
    private static void thereAreAtMost12() {
        StormFlags s = new StormFlags();
        boats(s, 11);
        s.gale(0, 1, 1, 12);
        s.trip(0, 1, 1);
        s.hours(1);
        Check.due("lost", s.count(7), 1);
        Check.due("the 12th", s.boat(0, 0, 8), 11);
        Check.dueThrow("a 13th", s, x -> x.boat(0, 0, 8), UnsupportedOperationException.class);
        Check.dueThrow("a 13th again", s, x -> x.boat(0, 2, 13), UnsupportedOperationException.class);
        Check.due("boats", s.count(6), 12);
        Check.dueThrowAndNoChange("a 13th", x -> boats(x, 12), x -> x.boat(0, 0, 8),
                UnsupportedOperationException.class);
    }

    /** Promise 11; the end of the terms: "IndexOutOfBoundsException: there is no such PORT". */
    private static void aBoatIsOfAPort() {
        Check.dueIndex("boat of port", Offices::busy, 3, (s, port) -> s.boat(port, 0, 8));
        Check.dueIndex("boat of no ports", s -> s.hours(1), 0, (s, port) -> s.boat(port, 0, 8));
    }

    /** Section 3: "BOLD (0 to 2)"; promise 11: "IllegalArgumentException: a number is none". */
    private static void boldIs0To2() {
        Check.dueRange("bold", Offices::busy, 0, 2, (s, bold) -> s.boat(0, bold, 8), 2);
    }

    /** Section 3: "STRENGTH (8 to 13)"; promise 11: "IllegalArgumentException: a number is none". */
    private static void strengthIs8To13() {
        Check.dueRange("strength", Offices::busy, 8, 13, (s, strength) -> s.boat(0, 0, strength), 2);
    }

    /** Section 3: "of a PORT, BOLD (0 to 2), STRENGTH (8 to 13)": as told, at any hour. */
    private static void aBoatIsAsToldAtAnyHour() {
        for (int hour : new int[] {10, 18, 802, 1970}) {
            for (int bold = 0; bold <= 2; bold++) {
                for (int strength = 8; strength <= 13; strength++) {
                    StormFlags s = new StormFlags();
                    s.port(0, 0, 0, 0);
                    s.port(0, 0, 1, 0);
                    Offices.hoursTo(s, hour - 1);
                    Offices.warn(s, "cone coast=1");
                    s.gale(1, hour + 2, hour + 2, 10);
                    s.boat(1, bold, strength);
                    s.trip(0, hour + 1, 5);
                    s.hours(2);
                    int state = bold == 0 ? 0 : strength <= 10 ? 3 : 2;
                    Check.due("bold " + bold + ", strength " + strength + ", at " + hour, s.look(0, 0), state);
                }
            }
        }
    }

    private static void busyWithAThirdBoat(StormFlags s) {
        Offices.busy(s);
        s.boat(2, 0, 8);
    }

    /** Promise 12; the end of the terms: "IndexOutOfBoundsException: there is no such .. BOAT". */
    private static void aTripIsOfABoat() {
        Check.dueIndex("trip of boat", Offices::busy, 2, (s, boat) -> s.trip(boat, 12, 1) ? 1 : 0);
        Check.dueIndex("trip of no boats", s -> s.port(3, 4, 0, 0), 0, (s, boat) -> s.trip(boat, 12, 1) ? 1 : 0);
    }

    /** Promise 12: "IllegalArgumentException: the hour is not behind NOW (2000 at most)": NOW is 11. */
    private static void theHourIsBehindNow() {
        Check.dueRange("hour", BoatTest::busyWithAThirdBoat, 12, 2000, (s, hour) -> s.trip(2, hour, 1) ? 1 : 0, 1);
    }

    /** Promise 12: "the hour is not behind NOW (2000 at most)": with NOW at first and at last. */
    private static void theHourAtTheFirstAndTheLastHour() {
        Check.dueRange("hour at 0", s -> boats(s, 1), 1, 2000, (s, hour) -> s.trip(0, hour, 1) ? 1 : 0, 1);
        StormFlags s = Offices.withBoat(0, 8);
        s.boat(0, 0, 8);
        Offices.hoursTo(s, 1999);
        Check.dueThrow("1999 at 1999", s, x -> x.trip(0, 1999, 1), IllegalArgumentException.class);
        Check.due("2000 at 1999", s.trip(0, 2000, 1), true);
        s.hours(1);
        Check.dueThrow("2000 at 2000", s, x -> x.trip(1, 2000, 1), IllegalArgumentException.class);
        Check.dueThrow("2001 at 2000", s, x -> x.trip(1, 2001, 1), IllegalArgumentException.class);
    }

    /** Section 3: "for 1 to 48 hours"; promise 12: "IllegalArgumentException: .. hours are none". */
    private static void hoursAre1To48() {
        Check.dueRange("hours", BoatTest::busyWithAThirdBoat, 1, 48, (s, hours) -> s.trip(2, 12, hours) ? 1 : 0, 1);
    }

    /** Promise 12: "false, and it is not told, if the BOAT has one already": the first one stands. */
    private static void aBoatThatIsToSailHasATrip() {
        StormFlags s = Offices.withBoat(0, 8);
        Check.due("the first", s.trip(0, 5, 3), true);
        for (int hour : new int[] {1, 4, 5, 6, 2000}) {
            Check.due("one more at " + hour, s.trip(0, hour, 48), false);
            Check.dueLook(s, 0, 1, 0, 0, 5);
        }
        s.hours(4);
        Check.due("one more in the hour ahead", s.trip(0, 6, 48), false);
        s.hours(1);
        Check.dueLook(s, 0, 2, 1, 0, 8);
    }

    /** Promise 12: "false, and it is not told, if the BOAT .. is at sea": from its first hour to its last. */
    private static void aBoatAtSeaHasATrip() {
        StormFlags s = Offices.withBoat(0, 8);
        s.trip(0, 5, 3);
        s.hours(5);
        for (int hour = 5; hour <= 7; hour++) {
            Check.due("at hour " + hour, s.trip(0, 9, 1), false);
            Check.dueLook(s, 0, 2, 1, 0, 8);
            s.hours(1);
        }
        Check.dueLook(s, 0, 0, 1, 0, Check.NONE);
        Check.due("at home again", s.trip(0, 9, 1), true);
        Check.dueLook(s, 0, 1, 1, 0, 9);
    }

    /** Promise 12: "false, and it is not told, if the BOAT .. is .. LOST.": for ever. */
    private static void aLostBoatHasNoTrip() {
        StormFlags s = Offices.withBoat(0, 8);
        s.gale(0, 5, 5, 8);
        s.trip(0, 5, 3);
        s.hours(5);
        Check.due("in the hour it is lost", s.trip(0, 6, 1), false);
        s.hours(100);
        Check.due("later", s.trip(0, 106, 1), false);
        s.hours(1);
        Check.dueLook(s, 0, 3, 1, 0, 5);
    }

    /** Section 3: "(one TRIP at a time)": a BOAT that STAYS may be sent again at once. */
    private static void aBoatThatStayedMayBeSentAgain() {
        StormFlags s = Offices.withBoat(0, 8);
        s.trip(0, 10, 3);
        Offices.warn(s, "cone coast=0");
        Check.dueLook(s, 0, 0, 0, 1, Check.NONE);
        Check.due("the next trip", s.trip(0, 11, 3), true);
        s.hours(1);
        Check.dueLook(s, 0, 0, 0, 2, Check.NONE);
    }

    /** Promise 12: "false, and it is not told": such a call changes nothing. */
    private static void aRefusedTripChangesNothing() {
        Check.dueNoChange("a trip too many", Offices::busy,
                s -> Check.due("a trip too many", s.trip(0, 12, 48), false));
    }

    /** An hour: "(a) at sea, with its last hour past, it is home": of 1 hour, of 2, and of 48. */
    private static void aBoatComesHomeBehindItsLastHour() {
        for (int hours : new int[] {1, 2, 48}) {
            StormFlags s = Offices.withBoat(0, 8);
            s.trip(0, 5, hours);
            s.hours(4);
            Check.dueLook(s, 0, 1, 0, 0, 5);
            s.hours(1);
            Check.dueLook(s, 0, 2, 1, 0, 5 + hours);
            s.hours(hours - 1);
            Check.dueLook(s, 0, 2, 1, 0, 5 + hours);
            s.hours(1);
            Check.dueLook(s, 0, 0, 1, 0, Check.NONE);
        }
    }

    /** An hour: "(a) .. it is home": ahead of (c), so a GALE in its first hour at home does nothing to it. */
    private static void aBoatAtHomeIsSafe() {
        for (int from = 5; from <= 8; from++) {
            StormFlags s = Offices.withBoat(0, 8);
            s.gale(0, from, 20, 12);
            s.trip(0, 4, 3);
            s.hours(10);
            Check.due("home from hour 7 on, a gale from " + from, s.look(0, 0), from <= 6 ? 3 : 0);
        }
    }

    /** An hour: "(c) at sea, and a GALE ..": neither a BOAT at home nor one that is to sail. */
    private static void aBoatThatIsToSailIsSafe() {
        StormFlags s = Offices.withBoat(0, 8);
        s.boat(0, 0, 8);
        s.gale(0, 1, 9, 12);
        s.trip(1, 10, 1);
        s.hours(9);
        Check.dueLook(s, 0, 0, 0, 0, Check.NONE);
        Check.dueLook(s, 1, 1, 0, 0, 10);
        s.hours(1);
        Check.dueLook(s, 1, 2, 1, 0, 11);
    }

    /** An hour: "(c) at sea": also in the hour in which it sails, ahead of which there was none. */
    private static void aBoatMayBeLostInItsFirstHour() {
        StormFlags s = Offices.withBoat(0, 8);
        s.gale(0, 5, 5, 8);
        s.trip(0, 5, 1);
        s.hours(5);
        Check.dueLook(s, 0, 3, 1, 0, 5);
    }

    /**
     * An hour: "if at its PORT a drum FLIES and it is BOLD 0 or 1, or a cone FLIES and it is BOLD 0, it STAYS (the
     * TRIP is over); else it is at sea": every flag and every boldness.
     */
    private static void aBoatStaysByTheFlagsItSees() {
        String[] texts = {"", "cone coast=0", "drum coast=0", "cone coast=0; drum coast=0"};
        int[] leastBold = {0, 1, 2, 2};
        for (int flags = 0; flags < 4; flags++) {
            for (int bold = 0; bold <= 2; bold++) {
                StormFlags s = Offices.withBoat(bold, 8);
                s.trip(0, 11, 2);
                Offices.warn(s, texts[flags]);
                s.hours(1);
                if (bold < leastBold[flags]) {
                    Check.dueLook(s, 0, 0, 0, 1, Check.NONE);
                } else {
                    Check.dueLook(s, 0, 2, 1, 0, 13);
                }
            }
        }
    }

    /** An hour: "if at its PORT a drum FLIES": the hour ahead, the first, the last, and the hour behind. */
    private static void aBoatSeesWhatFliesInTheHour() {
        int[] sails = {12, 13, 14, 35, 36, 37};
        boolean[] stays = {false, true, true, true, true, false};
        for (int i = 0; i < sails.length; i++) {
            StormFlags s = Offices.withPort(3);
            s.boat(0, 1, 8);
            s.trip(0, sails[i], 1);
            Offices.warn(s, "drum coast=0");
            Offices.hoursTo(s, sails[i]);
            Check.due("sails at " + sails[i], s.look(0, 2), stays[i] ? 1 : 0);
            Check.due("sailed at " + sails[i], s.look(0, 1), stays[i] ? 0 : 1);
        }
    }

    /** An hour: "if at its PORT a drum FLIES": not at another PORT, of its COAST or of another. */
    private static void aBoatSeesItsOwnPort() {
        StormFlags s = new StormFlags();
        s.port(0, 0, 0, 0);
        s.port(0, 0, 0, 12);
        s.port(0, 0, 1, 0);
        for (int i = 0; i < 3; i++) {
            s.boat(i, 0, 8);
            s.trip(i, 15, 20);
        }
        Offices.warn(s, "drum coast=0");
        Offices.hoursTo(s, 15);
        Check.dueLook(s, 0, 0, 0, 1, Check.NONE);
        Check.dueLook(s, 1, 2, 1, 0, 35);
        Check.dueLook(s, 2, 2, 1, 0, 35);
    }

    /** An hour: "(b) if it is to sail NOW": a flag that comes when it is at sea does not bring it home. */
    private static void aFlagDoesNotCallABoatHome() {
        StormFlags s = Offices.withBoat(0, 8);
        s.trip(0, 9, 3);
        Offices.warn(s, "drum coast=0");
        Check.dueLook(s, 0, 2, 1, 0, 12);
    }

    /** An hour: "with a FORCE not below STRENGTH: it is LOST.": each FORCE and each STRENGTH, 13 is never LOST. */
    private static void aBoatIsLostByAForceNotBelowItsStrength() {
        for (int strength = 8; strength <= 13; strength++) {
            for (int force = 8; force <= 12; force++) {
                StormFlags s = Offices.withBoat(0, strength);
                s.gale(0, 3, 4, force);
                s.trip(0, 2, 5);
                s.hours(2);
                Check.dueLook(s, 0, 2, 1, 0, 7);
                s.hours(1);
                Check.dueLook(s, 0, force < strength ? 2 : 3, 1, 0, force < strength ? 7 : 3);
            }
        }
    }

    /** An hour: "a GALE at its PORT goes on NOW": not one at another PORT; of several at its own any that can. */
    private static void aGaleAtItsPortAlone() {
        StormFlags s = Offices.withBoat(0, 10);
        s.port(0, 0, 0, 0);
        s.boat(1, 0, 10);
        s.gale(1, 3, 9, 9);
        s.gale(1, 4, 4, 10);
        s.gale(1, 3, 9, 9);
        s.trip(0, 2, 20);
        s.trip(1, 2, 20);
        s.hours(3);
        Check.dueLook(s, 1, 2, 1, 0, 22);
        s.hours(1);
        Check.dueLook(s, 0, 2, 1, 0, 22);
        Check.dueLook(s, 1, 3, 1, 0, 4);
    }

    /** Promise 16: "3 the hour at which it .. was LOST": the first such hour, though the GALE goes on. */
    private static void aLostBoatWasLostOnce() {
        StormFlags s = Offices.withBoat(0, 8);
        s.gale(0, 5, 30, 8);
        s.gale(0, 7, 30, 12);
        s.trip(0, 3, 10);
        s.hours(4);
        Check.dueLook(s, 0, 2, 1, 0, 13);
        s.hours(1);
        Check.dueLook(s, 0, 3, 1, 0, 5);
        s.hours(100);
        Check.dueLook(s, 0, 3, 1, 0, 5);
    }

    /** Promise 16: "1 how often it sailed, 2 how often it STAYED": none, once, and more. */
    private static void aBoatCountsItsTrips() {
        StormFlags s = Offices.withBoat(0, 8);
        for (int i = 0; i < 3; i++) {
            Check.dueLook(s, 0, 0, i, 0, Check.NONE);
            s.trip(0, 2 * i + 1, 1);
            s.hours(2);
        }
        Offices.warn(s, "cone coast=0");
        for (int i = 0; i < 3; i++) {
            Check.dueLook(s, 0, 0, 3, i, Check.NONE);
            s.trip(0, 11 + i, 1);
            s.hours(1);
        }
        Check.dueLook(s, 0, 0, 3, 3, Check.NONE);
    }

    /** Promise 16: "comes home (its first hour at home) if it is at sea": beyond the last hour too. */
    private static void aBoatMayBeAtSeaBeyondTheLastHour() {
        StormFlags s = new StormFlags();
        boats(s, 3);
        s.trip(0, 2000, 1);
        s.trip(1, 2000, 48);
        s.trip(2, 1999, 1);
        Offices.hoursTo(s, 1999);
        Check.dueLook(s, 2, 2, 1, 0, 2000);
        s.hours(1);
        Check.dueLook(s, 0, 2, 1, 0, 2001);
        Check.dueLook(s, 1, 2, 1, 0, 2048);
        Check.dueLook(s, 2, 0, 1, 0, Check.NONE);
        s.hours(200);
        Check.dueLook(s, 0, 2, 1, 0, 2001);
        Check.due("at sea", s.count(8), 2);
    }

    /** Promise 12: "A TRIP: true"; promise 16: "0: 0 at home, 1 to sail, 2 at sea, 3 LOST", "NONE at home." */
    private static void aBoatGoesThroughItsStates() {
        StormFlags s = Offices.withBoat(0, 8);
        s.gale(0, 7, 7, 8);
        Check.dueLook(s, 0, 0, 0, 0, Check.NONE);
        Check.due("a trip", s.trip(0, 2, 2), true);
        Check.dueLook(s, 0, 1, 0, 0, 2);
        s.hours(2);
        Check.dueLook(s, 0, 2, 1, 0, 4);
        s.hours(2);
        Check.dueLook(s, 0, 0, 1, 0, Check.NONE);
        Check.due("a trip again", s.trip(0, 6, 5), true);
        s.hours(1);
        Check.dueLook(s, 0, 1, 1, 0, 6);
        s.hours(1);
        Check.dueLook(s, 0, 2, 2, 0, 11);
        s.hours(1);
        Check.dueLook(s, 0, 3, 2, 0, 7);
    }

    /** Promise 16; the end of the terms: "IndexOutOfBoundsException: there is no such .. BOAT". */
    private static void aLookIsAtABoat() {
        Check.dueIndex("look at boat", Offices::busy, 2, (s, boat) -> s.look(boat, 0));
        Check.dueIndex("look at no boats", s -> s.port(3, 4, 0, 0), 0, (s, boat) -> s.look(boat, 0));
        Check.dueIndex("look at 12 boats", s -> boats(s, 12), 12, (s, boat) -> s.look(boat, 3));
    }

    /** Promise 16: "NoSuchElementException: another what.": next to 0 and 3, and far away. */
    private static void aLookHasNoOtherWhat() {
        for (int what : new int[] {Check.LOWEST, -1, 4, Check.HIGHEST}) {
            Check.dueThrowAndNoChange("what " + what, Offices::busy, s -> s.look(0, what),
                    NoSuchElementException.class);
        }
    }
}
