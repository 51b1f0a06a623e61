/** How a WARNING reaches its PORTS and how long it FLIES; promise 14. */
public final class FlagsTest {
    public static void main(String[] args) {
        Check.all(FlagsTest.class);
    }

    /**
     * The office section: "A WARNING reaches each PORT of the COAST .. as many hours behind as its WIRE has": from
     * a WIRE of 0 to one of 12, and each by its own: the hour ahead, the hour.
     */
    private static void aWarningComesByWire() {
        StormFlags s = new StormFlags();
        for (int wire = 1; wire <= 12; wire++) {
            s.port(wire, 0, 0, wire);
        }
        Offices.warn(s, "cone coast=0");
        for (int wire = 1; wire <= 12; wire++) {
            Check.due("the hour ahead, wire " + wire, s.flies(wire - 1, 10 + wire - 1), 0);
            Check.due("the hour, wire " + wire, s.flies(wire - 1, 10 + wire), 1);
        }
        StormFlags none = Offices.warned(0, "cone coast=0");
        Check.due("the hour ahead, no wire", none.flies(0, 9), 0);
        Check.due("the hour, no wire", none.flies(0, 10), 1);
    }

    /** The office section: "it FLIES there from that hour on for 24 hours (the first one, and 23 more)." */
    private static void aWarningFliesFor24Hours() {
        for (int wire : new int[] {0, 1, 11, 12}) {
            StormFlags s = Offices.warned(wire, "drum coast=0");
            int first = 10 + wire;
            for (int hour = 0; hour <= 60; hour++) {
                boolean flies = first <= hour && hour <= first + 23;
                Check.due("wire " + wire + ", hour " + hour, s.flies(0, hour), flies ? 2 : 0);
            }
        }
    }

    /** The office section: "reaches each PORT of the COAST": all of it, and no PORT of another COAST. */
    private static void aWarningIsForItsCoast() {
        for (int coast = 0; coast <= 3; coast++) {
            StormFlags s = new StormFlags();
            for (int i = 0; i < 12; i++) {
                s.port(0, 0, i % 4, 0);
            }
            Offices.warn(s, "cone coast=" + coast);
            for (int i = 0; i < 12; i++) {
                Check.due("port " + i, s.flies(i, 10), i % 4 == coast ? 1 : 0);
            }
        }
    }

    /** The office section: "(those that there are as it is sent)": a PORT made the hour ahead, and one made behind. */
    private static void aWarningIsForThePortsThatThereAre() {
        StormFlags s = Offices.withPort(12);
        Check.rules(s, "cone coast=0");
        s.hours(9);
        s.port(0, 0, 0, 12);
        s.hours(1);
        Check.rules(s, "");
        s.port(0, 0, 0, 12);
        s.hours(1);
        s.port(0, 0, 0, 0);
        Check.due("made at hour 0", s.flies(0, 22), 1);
        Check.due("made at hour 9", s.flies(1, 22), 1);
        Check.due("made at hour 10", s.flies(2, 22), 0);
        Check.due("made at hour 11", s.flies(3, 22), 0);
        Check.due("made at hour 11, ahead of that", s.flies(3, 11), 0);
    }

    /** The office section: "(those that there are as it is sent)": a later PORT has the next one. */
    private static void aLaterPortHasTheNextWarning() {
        StormFlags s = Offices.warned(0, "cone coast=0");
        s.port(0, 0, 0, 0);
        Offices.warn(s, "drum coast=0");
        Check.due("the first port at hour 18", s.flies(0, 18), 3);
        Check.due("the second port at hour 18", s.flies(1, 18), 2);
        Check.due("the second port at hour 17", s.flies(1, 17), 0);
    }

    /** Promise 14: "(by the WARNINGS sent up to now)": the hour ahead of the office, its hour, and later. */
    private static void fliesGoesByWhatIsSent() {
        StormFlags s = Offices.withPort(2);
        Check.rules(s, "cone coast=0");
        s.hours(9);
        Check.due("at hour 9, of hour 12", s.flies(0, 12), 0);
        s.hours(1);
        Check.due("at hour 10, of hour 12", s.flies(0, 12), 1);
        Check.rules(s, "");
        s.hours(50);
        Check.due("at hour 60, of hour 12", s.flies(0, 12), 1);
        Check.due("at hour 60, of hour 60", s.flies(0, 60), 0);
    }

    /** Promise 14: "1 a cone, 2 a drum, both together, 0 nothing.": together they are 3. */
    private static void fliesTellsTheFlags() {
        Check.due("nothing", Offices.warned(0, "").flies(0, 10), 0);
        Check.due("a cone", Offices.warned(0, "cone coast=0").flies(0, 10), 1);
        Check.due("a drum", Offices.warned(0, "drum coast=0").flies(0, 10), 2);
        Check.due("both", Offices.warned(0, "cone coast=0; drum coast=0").flies(0, 10), 3);
        Check.due("both, the other way", Offices.warned(0, "drum coast=0; cone coast=0").flies(0, 10), 3);
    }

    /** Promise 14: "1 a cone, 2 a drum, both together": several of one kind are as one. */
    private static void severalFlagsOfAKindAreAsOne() {
        Check.due("8 cones", Offices.warned(0, "cone coast=0" + ";cone coast=0".repeat(7)).flies(0, 10), 1);
        Check.due("8 drums", Offices.warned(0, "drum coast=0" + ";drum coast=0".repeat(7)).flies(0, 10), 2);
        Check.due("4 of each", Offices.warned(0, "drum coast=0;cone coast=0" + ";drum coast=0;cone coast=0".repeat(3))
                .flies(0, 10), 3);
    }

    /** Promise 14: "What FLIES .. at an hour": where one ends as another begins, and where they overlap. */
    private static void flagsFollowOneAnother() {
        StormFlags s = Offices.warned(0, "cone coast=0");
        Offices.warn(s, "drum coast=0");
        Check.due("ahead of the drum", s.flies(0, 17), 1);
        Check.due("both at first", s.flies(0, 18), 3);
        Check.due("both at last", s.flies(0, 33), 3);
        Check.due("the drum alone", s.flies(0, 34), 2);
        Check.due("the drum's last hour", s.flies(0, 41), 2);
        Check.due("behind it", s.flies(0, 42), 0);
        StormFlags close = Offices.warned(0, "cone coast=0");
        Offices.hoursTo(close, 26);
        Offices.warn(close, "drum coast=0");
        Check.due("the cone's last hour", close.flies(0, 33), 1);
        Check.due("the drum's first hour", close.flies(0, 34), 2);
    }

    /** The office section: "it FLIES there from that hour on for 24 hours": beyond the last hour too. */
    private static void aWarningFliesBeyondTheLastHour() {
        StormFlags s = new StormFlags();
        s.port(0, 0, 0, 0);
        s.port(0, 0, 0, 12);
        Offices.hoursTo(s, 1993);
        Offices.warn(s, "cone coast=0");
        Offices.hoursTo(s, 2000);
        int[] hours = {1993, 1994, 2000, 2001, 2017, 2018};
        int[] want = {0, 1, 1, 1, 1, 0};
        for (int i = 0; i < hours.length; i++) {
            Check.due("no wire, hour " + hours[i], s.flies(0, hours[i]), want[i]);
        }
        Check.due("wire 12, hour 2005", s.flies(1, 2005), 0);
        Check.due("wire 12, hour 2006", s.flies(1, 2006), 1);
        Check.due("wire 12, hour 2029", s.flies(1, 2029), 1);
        Check.due("wire 12, hour 2030", s.flies(1, 2030), 0);
    }

    /** Promise 14: "0 nothing": at hours that never are. */
    private static void nothingFliesAtHoursFarAway() {
        StormFlags s = Offices.warned(0, "cone coast=0; drum coast=0");
        for (int hour : new int[] {Check.LOWEST, Check.LOWEST + 10, -1, 0, 2000, 2001, Check.HIGHEST}) {
            Check.due("hour " + hour, s.flies(0, hour), 0);
        }
    }

    /** Promise 14; the end of the terms: "IndexOutOfBoundsException: there is no such PORT". */
    private static void fliesIsOfAPort() {
        Check.dueIndex("flies of port", Offices::busy, 3, (s, port) -> s.flies(port, 10));
        Check.dueIndex("flies of no ports", s -> s.hours(1), 0, (s, port) -> s.flies(port, 10));
        Check.dueIndex("flies of port at no hour", Offices::busy, 3, (s, port) -> s.flies(port, -1));
    }
}
