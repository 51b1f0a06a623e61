/**
 * One story of two days, reckoned by hand, for each thing that "What it is" names: three PORTS of two COASTS, one
 * of which tells in time, one late and one not at all; and the example of README.md.
 */
public final class StoryTest {
    private static final int NEAR = 0;
    private static final int LATE = 1;
    private static final int DUMB = 2;

    public static void main(String[] args) {
        Check.all(StoryTest.class);
    }

    /** The office at an hour of the story, with all that was told by then. */
    private static StormFlags at(int hour) {
        StormFlags s = new StormFlags();
        s.port(2, 2, 0, 0);
        s.port(4, 2, 0, 6);
        s.port(10, 10, 1, 2);
        Check.rules(s, "cone fall > 150; drum low < 9600 and wind > 8");
        s.boat(NEAR, 0, 9);
        s.boat(LATE, 1, 10);
        s.boat(DUMB, 2, 8);
        s.trip(0, 11, 10);
        s.trip(1, 17, 5);
        s.trip(2, 13, 30);
        s.gale(DUMB, 20, 22, 8);
        s.gale(LATE, 15, 15, 12);
        s.report(NEAR, 0, 10000, 3);
        s.report(LATE, 0, 10000, 3);
        if (hour >= 8) {
            Offices.hoursTo(s, 8);
            s.report(NEAR, 1, 9800, 7);
            s.report(LATE, 1, 9500, 9);
        }
        if (hour >= 16) {
            Offices.hoursTo(s, 16);
            s.report(NEAR, 2, 9400, 9);
            s.report(LATE, 2, 9300, 10);
        }
        Offices.hoursTo(s, hour);
        return s;
    }

    /** What it is: "ports that report by wire, late or not at all". */
    private static void portsReportByWireLateOrNotAtAll() {
        StormFlags s = at(16);
        Check.due("in time", s.counts(NEAR, 1, 8), 2);
        Check.due("not yet", s.counts(LATE, 1, 13), Check.NONE);
        Check.due("late", s.counts(LATE, 1, 14), 3);
        Check.due("not at all", s.counts(DUMB, 1, 2000), Check.NONE);
    }

    /** What it is: "fields of the glass drawn from what is known by an hour". */
    private static void fieldsAreDrawnFromWhatIsKnownByAnHour() {
        StormFlags s = at(18);
        Check.due("watch 0 by hour 10", s.field(3, 2, 0, 10), 10000);
        Check.due("watch 1 by hour 10", s.field(3, 2, 1, 10), 9800);
        Check.due("watch 1 by hour 18", s.field(3, 2, 1, 18), 9650);
        Check.due("watch 2 by hour 18", s.field(3, 2, 2, 18), 9400);
        // The weights at 10, 10 are 1000 by 129 and 1000 by 101: 7 and 9.
        Check.due("watch 1 by hour 18, at the other coast", s.field(10, 10, 1, 18), 9631);
        Check.due("watch 2 by hour 22", s.field(3, 2, 2, 22), 9350);
        Check.due("watch 3", s.field(3, 2, 3, 2000), Check.NONE);
    }

    /** What it is: "warnings by rules in a text". */
    private static void warningsGoByRulesInAText() {
        Check.due("by hour 9", at(9).count(4), 0);
        Check.due("by hour 10", at(10).count(4), 2);
        StormFlags s = at(18);
        Check.due("by hour 18", s.count(4), 5);
        Check.dueWarning(s, 0, 10, 0, 0, 0);
        Check.dueWarning(s, 1, 10, 1, 0, 0);
        Check.dueWarning(s, 2, 18, 0, 0, 0);
        Check.dueWarning(s, 3, 18, 0, 1, 1);
        Check.dueWarning(s, 4, 18, 1, 0, 0);
        Check.due("by hour 60", at(60).count(4), 5);
    }

    /** What it is: "that reach each port when its wire brings them and fly for a day". */
    private static void warningsFlyForADay() {
        StormFlags s = at(60);
        dueFlags(s, NEAR, new int[] {9, 10, 17, 18, 33, 34, 41, 42}, new int[] {0, 1, 1, 3, 3, 3, 3, 0});
        dueFlags(s, LATE, new int[] {15, 16, 23, 24, 39, 40, 47, 48}, new int[] {0, 1, 1, 3, 3, 3, 3, 0});
        dueFlags(s, DUMB, new int[] {11, 12, 19, 20, 35, 36, 43, 44}, new int[] {0, 1, 1, 1, 1, 1, 1, 0});
    }

    private static void dueFlags(StormFlags s, int port, int[] hours, int[] flags) {
        for (int i = 0; i < hours.length; i++) {
            Check.due("port " + port + ", hour " + hours[i], s.flies(port, hours[i]), flags[i]);
        }
    }

    /** What it is: "boats that sail or stay by the flags they see". */
    private static void boatsSailOrStayByTheFlagsTheySee() {
        Check.dueLook(at(10), 0, 1, 0, 0, 11);
        Check.dueLook(at(11), 0, 0, 0, 1, Check.NONE);
        Check.dueLook(at(17), 1, 2, 1, 0, 22);
        Check.dueLook(at(22), 1, 0, 1, 0, Check.NONE);
        Check.dueLook(at(19), 2, 2, 1, 0, 43);
        Check.dueLook(at(60), 2, 3, 1, 0, 20);
        Check.due("lost", at(60).count(7), 1);
        Check.due("at sea at 17", at(17).count(8), 2);
    }

    /** What it is: "gales that come or do not, and how many were warned of, missed, or called in vain." */
    private static void galesAreWarnedOfMissedOrCalledInVain() {
        Check.dueScore(at(14), LATE, 0, 0, 0, 0);
        Check.dueScore(at(15), LATE, 0, 1, 0, 0);
        Check.dueScore(at(20), DUMB, 1, 0, 0, 2);
        StormFlags s = at(60);
        Check.dueScore(s, NEAR, 0, 0, 3, 3);
        Check.dueScore(s, LATE, 0, 1, 3, 3);
        Check.dueScore(s, DUMB, 1, 0, 0, 2);
        Check.due("in vain by hour 40", at(40).score(LATE, 2), 1);
        Check.due("in vain by hour 47", at(47).score(LATE, 2), 1);
        Check.due("in vain by hour 48", at(48).score(LATE, 2), 3);
    }

    /** README.md, "How to use it": every answer that its remarks tell; the public face: "StormFlags". */
    private static void theExampleOfTheReadme() {
        StormFlags office = new StormFlags();
        int port = office.port(5, 5, 1, 0);
        Check.due("feed", office.feed(0x636f6e65, 0x206c6f77, 0x203c2039, 0x39393900, 0), 20);
        Check.due("end", office.end(15), true);
        Check.due("rules", office.rules(), 1);
        int boat = office.boat(port, 0, 8);
        office.gale(port, 12, 14, 9);
        Check.due("hours", office.hours(8), 8);
        office.report(port, 1, 9500, 0);
        Check.due("trip", office.trip(boat, 11, 4), true);
        Check.due("hours again", office.hours(7), 15);
        Check.due("flies", office.flies(port, 11), 1);
        Check.due("stayed", office.look(boat, 2), 1);
        Check.due("warned of", office.score(port, 0), 1);
    }
}
