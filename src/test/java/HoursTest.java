/** Promise 13, NOW, and the order of what happens in an hour. */
public final class HoursTest {
    public static void main(String[] args) {
        Check.all(HoursTest.class);
    }

    /** Promise 13: "So many hours, ..: NOW.": 0, 1 and 200. */
    private static void hoursAnswersNow() {
        StormFlags s = new StormFlags();
        Check.due("no hours", s.hours(0), 0);
        Check.due("an hour", s.hours(1), 1);
        Check.due("200 hours", s.hours(200), 201);
        Check.due("no hours again", s.hours(0), 201);
        Check.due("now", s.count(0), 201);
    }

    /** Promise 13: "IllegalArgumentException: not 0 to 200." */
    private static void hoursAre0To200() {
        Check.dueRange("hours", Offices::busy, 0, 200, (s, n) -> s.hours(n) - n, 11);
    }

    /** Promise 13: "IllegalArgumentException: not 0 to 200.": at the last hour too. */
    private static void hoursAre0To200AtTheLastHour() {
        Check.dueRange("hours at the last hour", s -> Offices.hoursTo(s, 2000), 0, 200, (s, n) -> s.hours(n), 2000);
    }

    /** Terms: "NOW is an hour, 0 at first, 2000 at last."; promise 13: "as far as NOW may go". */
    private static void nowIs2000AtLast() {
        int[][] cases = {{1799, 200, 1999}, {1800, 199, 1999}, {1800, 200, 2000}, {1801, 200, 2000}, {1999, 0, 1999},
            {1999, 1, 2000}, {1999, 2, 2000}, {1999, 200, 2000}, {2000, 0, 2000}, {2000, 1, 2000}, {2000, 200, 2000}};
        for (int[] c : cases) {
            StormFlags s = new StormFlags();
            Offices.hoursTo(s, c[0]);
            Check.due(c[1] + " hours from " + c[0], s.hours(c[1]), c[2]);
            Check.due("now", s.count(0), c[2]);
        }
    }

    /** Promise 13: "So many hours": 40 at once are as 40 times one. */
    private static void manyHoursAreAsManyTimesOne() {
        StormFlags once = new StormFlags();
        StormFlags often = new StormFlags();
        Offices.busy(once);
        Offices.busy(often);
        once.hours(40);
        for (int i = 0; i < 40; i++) {
            often.hours(1);
        }
        Check.dueSame("40 hours", Check.seen(once), Check.seen(often));
    }

    /** Promise 13: "So many hours": no hours do nothing, not even in the hour of the office. */
    private static void noHoursDoNothing() {
        Check.dueNoChange("no hours", Offices::busy, s -> s.hours(0));
        StormFlags s = Offices.withPort(0);
        s.hours(10);
        Check.rules(s, "cone coast=0");
        s.hours(0);
        Check.due("warnings", s.count(4), 0);
    }

    /** Promise 13: "as far as NOW may go": beyond 2000 neither a BOAT sails nor does one come home. */
    private static void beyondTheLastHourNothingHappens() {
        StormFlags s = Offices.withBoat(0, 8);
        s.trip(0, 2000, 1);
        Offices.hoursTo(s, 2000);
        Check.dueLook(s, 0, 2, 1, 0, 2001);
        s.hours(5);
        Check.dueLook(s, 0, 2, 1, 0, 2001);
    }

    /** An hour: "NOW is one more; the OFFICE, if it is its hour": a REPORT that is KNOWN just then is used. */
    private static void nowIsOneMoreAheadOfTheOffice() {
        for (int wire = 1; wire <= 3; wire++) {
            StormFlags s = Offices.withPort(wire);
            s.hours(8);
            s.report(0, 1, 9500, 0);
            Offices.warn(s, "cone low<9501");
            Check.due("known at " + (8 + wire), s.count(4), wire <= 2 ? 1 : 0);
        }
    }

    /** An hour: "the OFFICE, if it is its hour; each BOAT": a BOAT sees what was sent in its very hour. */
    private static void theOfficeIsAheadOfTheBoats() {
        for (int hour = 9; hour <= 11; hour++) {
            StormFlags s = Offices.withBoat(0, 8);
            s.trip(0, hour, 5);
            Check.rules(s, "cone coast=0");
            s.hours(11);
            Check.due("stayed at " + hour, s.look(0, 2), hour >= 10 ? 1 : 0);
        }
    }

    /** An hour: "each BOAT": from the first to the twelfth, each in the same hour. */
    private static void eachBoatHasItsHour() {
        StormFlags s = Offices.withPort(0);
        for (int i = 0; i < 12; i++) {
            s.boat(0, 0, 8 + i % 6);
            s.trip(i, 1, 1 + i);
        }
        s.gale(0, 2, 2, 10);
        s.hours(2);
        for (int i = 0; i < 12; i++) {
            boolean lost = i % 6 <= 2 && i > 0;
            Check.dueLook(s, i, i == 0 ? 0 : lost ? 3 : 2, 1, 0, i == 0 ? Check.NONE : lost ? 2 : 2 + i);
        }
    }
}
