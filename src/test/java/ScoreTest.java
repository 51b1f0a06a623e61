import java.util.NoSuchElementException;

/** Promise 17, and which GALES are WARNED or MISSED and which WARNINGS are in VAIN. */
public final class ScoreTest {
    public static void main(String[] args) {
        Check.all(ScoreTest.class);
    }

    /** Of a port: "a GALE that has begun": the hour ahead, its first hour, and its last one and behind. */
    private static void aGaleCountsFromItsFirstHourOn() {
        StormFlags s = Offices.withPort(0);
        s.gale(0, 5, 6, 8);
        s.hours(4);
        Check.dueScore(s, 0, 0, 0, 0, 0);
        for (int hour = 5; hour <= 8; hour++) {
            s.hours(1);
            Check.dueScore(s, 0, 0, 1, 0, 0);
        }
    }

    /**
     * Of a port: "WARNED, if something FLEW at its first hour, else MISSED": the hour ahead of the first one that a
     * WARNING FLIES, that one, the last one, and the hour behind.
     */
    private static void aGaleIsWarnedByWhatFlewAtItsFirstHour() {
        int[] from = {12, 13, 14, 35, 36, 37};
        boolean[] warned = {false, true, true, true, true, false};
        for (String flag : new String[] {"cone", "drum"}) {
            for (int i = 0; i < from.length; i++) {
                StormFlags s = Offices.withPort(3);
                s.gale(0, from[i], 100, 8);
                Offices.warn(s, flag + " coast=0");
                Offices.hoursTo(s, from[i]);
                Check.due(flag + ", from " + from[i] + ", warned", s.score(0, 0), warned[i] ? 1 : 0);
                Check.due(flag + ", from " + from[i] + ", missed", s.score(0, 1), warned[i] ? 0 : 1);
                s.hours(100);
                Check.due(flag + ", from " + from[i] + ", warned still", s.score(0, 0), warned[i] ? 1 : 0);
                Check.due(flag + ", from " + from[i] + ", missed still", s.score(0, 1), warned[i] ? 0 : 1);
            }
        }
    }

    /** Of a port: "WARNED, if something FLEW at its first hour": a WARNING sent, and there, in that very hour. */
    private static void aGaleIsWarnedInTheHourOfTheOffice() {
        StormFlags s = Offices.withPort(0);
        s.gale(0, 10, 10, 8);
        s.gale(0, 9, 11, 8);
        Offices.warn(s, "drum coast=0");
        Check.dueScore(s, 0, 1, 1, 0, 1);
    }

    /** Of a port: "something FLEW": at the PORT of the GALE, not at another one. */
    private static void aGaleIsOfItsPort() {
        StormFlags s = new StormFlags();
        s.port(0, 0, 0, 0);
        s.port(0, 0, 1, 0);
        s.gale(0, 12, 12, 8);
        s.gale(1, 12, 12, 8);
        s.gale(1, 13, 13, 8);
        Offices.warn(s, "cone coast=0");
        s.hours(10);
        Check.dueScore(s, 0, 1, 0, 0, 1);
        Check.dueScore(s, 1, 0, 2, 0, 0);
    }

    /** Promise 17: "0 GALES that were WARNED, 1 MISSED": none, and as many as there may be. */
    private static void thirtyGalesAreCounted() {
        StormFlags s = Offices.withPort(0);
        for (int i = 0; i < 30; i++) {
            s.gale(0, i + 1, 2000, 12);
        }
        Check.dueScore(s, 0, 0, 0, 0, 0);
        Offices.warn(s, "cone coast=0");
        Check.dueScore(s, 0, 1, 9, 0, 1);
        s.hours(100);
        Check.dueScore(s, 0, 21, 9, 0, 1);
    }

    /** Promise 17: "3 WARNINGS that reached it by NOW.": the hour ahead, the hour, and behind. */
    private static void aWarningCountsFromTheHourItCame() {
        for (int wire : new int[] {0, 1, 12}) {
            StormFlags s = Offices.withPort(wire);
            Check.rules(s, "cone coast=0");
            s.hours(9);
            Check.due("at hour 9, wire " + wire, s.score(0, 3), 0);
            s.hours(1);
            Check.rules(s, "");
            for (int hour = 10; hour <= 30; hour++) {
                Check.due("at hour " + hour + ", wire " + wire, s.score(0, 3), hour >= 10 + wire ? 1 : 0);
                s.hours(1);
            }
        }
    }

    /** Promise 17: "3 WARNINGS that reached it": of its COAST, and none sent ahead of the PORT. */
    private static void aWarningCountsWhereItGoes() {
        StormFlags s = new StormFlags();
        s.port(0, 0, 0, 0);
        s.port(0, 0, 1, 0);
        Offices.warn(s, "cone coast=0; drum coast=0; cone coast=1");
        s.port(0, 0, 0, 0);
        s.hours(30);
        Check.dueScore(s, 0, 0, 0, 2, 2);
        Check.dueScore(s, 1, 0, 0, 1, 1);
        Check.dueScore(s, 2, 0, 0, 0, 0);
    }

    /** Promise 17: "2 WARNINGS that were in VAIN, 3 WARNINGS that reached it": as many as there may be. */
    private static void twoHundredWarningsAreCounted() {
        StormFlags s = Offices.withPort(0);
        Check.rules(s, "cone coast=0" + ";drum coast=0".repeat(7));
        Offices.hoursTo(s, 8 * 25 + 2);
        Check.dueScore(s, 0, 0, 0, 8 * 22, 200);
        s.hours(23);
        Check.dueScore(s, 0, 0, 0, 8 * 24, 200);
        s.hours(1);
        Check.dueScore(s, 0, 0, 0, 200, 200);
        s.hours(100);
        Check.dueScore(s, 0, 0, 0, 200, 200);
    }

    /** Of a port: "in VAIN, if it does not FLY any more": its last hour, and the hour behind. */
    private static void aWarningIsInVainWhenItDoesNotFlyAnyMore() {
        for (int wire : new int[] {0, 12}) {
            StormFlags s = Offices.warned(wire, "cone coast=0");
            Check.due("as it is sent, wire " + wire, s.score(0, 2), 0);
            Offices.hoursTo(s, 10 + wire + 23);
            Check.due("in its last hour, wire " + wire, s.score(0, 2), 0);
            s.hours(1);
            Check.due("in the hour behind, wire " + wire, s.score(0, 2), 1);
            s.hours(100);
            Check.due("later, wire " + wire, s.score(0, 2), 1);
        }
    }

    /**
     * Of a port: "and no GALE went on there in one of its 24 hours.": GALES that end ahead of them or in the first,
     * that begin in the last or behind it, within and all round. It FLIES from 13 to 36.
     */
    private static void aWarningIsNotInVainWithAGaleInItsHours() {
        int[][] gales = {{1, 12}, {1, 13}, {12, 12}, {13, 13}, {14, 14}, {20, 30}, {35, 35}, {36, 36}, {37, 37},
            {36, 90}, {37, 90}, {1, 90}, {13, 36}, {12, 37}};
        int[] vain = {1, 0, 1, 0, 0, 0, 0, 0, 1, 0, 1, 0, 0, 0};
        for (int i = 0; i < gales.length; i++) {
            StormFlags s = Offices.withPort(3);
            s.gale(0, gales[i][0], gales[i][1], 8);
            Offices.warn(s, "cone coast=0");
            Offices.hoursTo(s, 37);
            Check.due("a gale " + gales[i][0] + " to " + gales[i][1], s.score(0, 2), vain[i]);
            s.hours(100);
            Check.due("later, a gale " + gales[i][0] + " to " + gales[i][1], s.score(0, 2), vain[i]);
        }
    }

    /** Of a port: "no GALE went on there": one at another PORT does not count, of several one is enough. */
    private static void aGaleElsewhereLeavesItInVain() {
        StormFlags s = new StormFlags();
        s.port(0, 0, 0, 0);
        s.port(0, 0, 0, 0);
        s.gale(0, 1, 9, 8);
        s.gale(0, 33, 33, 8);
        s.gale(0, 34, 40, 8);
        s.gale(1, 1, 9, 8);
        s.gale(1, 34, 40, 8);
        Offices.warn(s, "cone coast=0");
        Offices.hoursTo(s, 34);
        Check.due("with a gale in its last hour", s.score(0, 2), 0);
        Check.due("with gales ahead and behind alone", s.score(1, 2), 1);
    }

    /** Of a port: "in VAIN": each WARNING by its own hours. */
    private static void eachWarningByItsOwnHours() {
        StormFlags s = Offices.warned(0, "cone coast=0");
        Offices.warn(s, "cone coast=0");
        s.gale(0, 34, 34, 8);
        Offices.hoursTo(s, 42);
        Check.dueScore(s, 0, 1, 0, 1, 2);
    }

    /** Of a port, "by NOW": a WARNING that FLIES beyond the last hour, or never comes, is never in VAIN. */
    private static void theLastWarningsAreNeverInVain() {
        StormFlags s = new StormFlags();
        s.port(0, 0, 0, 0);
        s.port(0, 0, 0, 6);
        s.port(0, 0, 0, 7);
        Offices.hoursTo(s, 1993);
        Offices.warn(s, "cone coast=0");
        Offices.hoursTo(s, 2000);
        s.hours(200);
        Check.dueScore(s, 0, 0, 0, 0, 1);
        Check.dueScore(s, 1, 0, 0, 0, 1);
        Check.dueScore(s, 2, 0, 0, 0, 0);
    }

    /** Of a port, "if it does not FLY any more": the last WARNING that can be in VAIN, and the next one. */
    private static void theLastWarningThatCanBeInVain() {
        int[] wires = {5, 6, 7};
        for (int wire : wires) {
            StormFlags s = Offices.withPort(wire);
            Offices.hoursTo(s, 1969);
            Offices.warn(s, "cone coast=0");
            Offices.hoursTo(s, 2000);
            // Sent at 1970, it flies up to 1970 + wire + 23: to 1998, 1999 and 2000.
            Check.due("wire " + wire, s.score(0, 2), wire <= 6 ? 1 : 0);
        }
    }

    /** Promise 17; the end of the terms: "IndexOutOfBoundsException: there is no such PORT". */
    private static void aScoreIsOfAPort() {
        Check.dueIndex("score of port", Offices::busy, 3, (s, port) -> s.score(port, 0));
        Check.dueIndex("score of no ports", s -> s.hours(1), 0, (s, port) -> s.score(port, 0));
    }

    /** Promise 17: "NoSuchElementException: another what.": next to 0 and 3, and far away. */
    private static void aScoreHasNoOtherWhat() {
        for (int what : new int[] {Check.LOWEST, -1, 4, Check.HIGHEST}) {
            Check.dueThrowAndNoChange("what " + what, Offices::busy, s -> s.score(0, what),
                    NoSuchElementException.class);
        }
    }
}
