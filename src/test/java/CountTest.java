/** Promise 18. */
public final class CountTest {
    public static void main(String[] args) {
        Check.all(CountTest.class);
    }

    private static void dueCounts(StormFlags s, int... want) {
        for (int what = 0; what < want.length; what++) {
            Check.due("count(" + what + ") at " + s.count(0), s.count(what), want[what]);
        }
    }

    /** Promise 18: "0 NOW, 1 PORTS, 2 REPORTS, 3 RULES, 4 WARNINGS sent, 5 GALES, 6 BOATS, 7 .. LOST, 8 at sea." */
    private static void eachThingIsCounted() {
        StormFlags s = new StormFlags();
        dueCounts(s, 0, 0, 0, 0, 0, 0, 0, 0, 0);
        Offices.busy(s);
        dueCounts(s, 11, 3, 3, 3, 4, 2, 2, 0, 0);
    }

    /** Promise 18: "1 PORTS, 2 REPORTS, 3 RULES, 4 WARNINGS sent, 5 GALES, 6 BOATS": as many as there may be. */
    private static void asManyAsThereMayBe() {
        StormFlags s = new StormFlags();
        for (int i = 0; i < 12; i++) {
            s.port(i, i, 0, 0);
            s.boat(i, 2, 8);
            s.trip(i, 2000, 1);
        }
        for (int i = 0; i < 300; i++) {
            s.report(0, 0, 9000, 0);
        }
        for (int i = 0; i < 30; i++) {
            s.gale(0, 2000, 2000, 8);
        }
        Check.rules(s, "cone coast=0" + ";cone coast=0".repeat(7));
        Offices.hoursTo(s, 1999);
        dueCounts(s, 1999, 12, 300, 8, 200, 30, 12, 0, 0);
        s.hours(1);
        dueCounts(s, 2000, 12, 300, 8, 200, 30, 12, 1, 11);
    }

    /** Promise 18: "7 BOATS that are LOST, 8 at sea": none, some and all, to sail, at sea, home and LOST. */
    private static void boatsLostAndAtSea() {
        StormFlags s = Offices.withPort(0);
        for (int i = 0; i < 12; i++) {
            s.boat(0, 0, i < 6 ? 8 : 9);
            s.trip(i, 2, 3);
        }
        s.gale(0, 3, 3, 8);
        s.gale(0, 4, 4, 9);
        s.hours(1);
        dueCounts(s, 1, 1, 0, 0, 0, 2, 12, 0, 0);
        s.hours(1);
        dueCounts(s, 2, 1, 0, 0, 0, 2, 12, 0, 12);
        s.hours(1);
        dueCounts(s, 3, 1, 0, 0, 0, 2, 12, 6, 6);
        s.hours(1);
        dueCounts(s, 4, 1, 0, 0, 0, 2, 12, 12, 0);
    }

    /** Promise 18: "8 at sea": up to a BOAT's last hour, not behind it. */
    private static void atSeaToTheLastHour() {
        StormFlags s = Offices.withBoat(0, 8);
        s.trip(0, 2, 2);
        int[] want = {0, 1, 1, 0};
        for (int i = 0; i < want.length; i++) {
            s.hours(1);
            Check.due("at hour " + (i + 1), s.count(8), want[i]);
        }
    }

    /** Promise 18: "NONE for another what.": next to 0 and 8, and far away; it throws nothing. */
    private static void anotherWhatIsNone() {
        StormFlags s = new StormFlags();
        Offices.busy(s);
        for (int what : new int[] {Check.LOWEST, -2, -1, 9, 10, Check.HIGHEST}) {
            Check.due("count(" + what + ")", s.count(what), Check.NONE);
        }
    }
}
