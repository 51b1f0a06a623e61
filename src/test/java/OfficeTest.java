import java.util.NoSuchElementException;

/** THE OFFICE, the CONDITIONS by which it sends WARNINGS, and promise 15. */
public final class OfficeTest {
    public static void main(String[] args) {
        Check.all(OfficeTest.class);
    }

    /** The office section: "at each hour 8 w and 2 with w from 1 on": hour by hour, none at hour 2. */
    private static void theOfficeHasItsHours() {
        StormFlags s = Offices.withPort(0);
        Check.rules(s, "cone coast=0");
        for (int hour = 1; hour <= 50; hour++) {
            s.hours(1);
            Check.due("warnings by hour " + hour, s.count(4), hour < 10 ? 0 : (hour - 2) / 8);
        }
        for (int i = 0; i < 6; i++) {
            Check.dueWarning(s, i, 8 * (i + 1) + 2, 0, 0, 0);
        }
    }

    /** The office section: "at each hour 8 w and 2": the last one is at hour 1994, for 2002 never comes. */
    private static void theLastOfficeIsAt1994() {
        StormFlags s = Offices.withPort(0);
        Offices.hoursTo(s, 1993);
        Check.rules(s, "cone coast=0");
        s.hours(1);
        Check.due("warnings by hour 1994", s.count(4), 1);
        Check.dueWarning(s, 0, 1994, 0, 0, 0);
        s.hours(6);
        Check.due("warnings by hour 2000", s.count(4), 1);
        s.hours(200);
        Check.due("warnings beyond", s.count(4), 1);
    }

    /** The rules section: "A text stands in place of the one before.": an hour ahead of the office, and at its hour. */
    private static void aTextWorksFromTheNextOfficeOn() {
        StormFlags s = Offices.withPort(0);
        s.hours(9);
        Check.rules(s, "cone coast=0");
        s.hours(1);
        Check.due("told at hour 9", s.count(4), 1);
        Check.rules(s, "drum coast=0");
        s.hours(7);
        Check.due("told at hour 10, by hour 17", s.count(4), 1);
        s.hours(1);
        Check.dueWarning(s, 1, 18, 0, 1, 0);
    }

    /** The office section: "by what is KNOWN at it": an hour ahead, at its hour, and an hour too late. */
    private static void theOfficeGoesByWhatIsKnown() {
        for (String text : new String[] {"cone low<9501", "cone fall>499", "cone wind>6"}) {
            for (int told = 8; told <= 9; told++) {
                for (int wire = 0; wire <= 3; wire++) {
                    StormFlags s = Offices.withPort(wire);
                    s.report(0, 0, 10000, 0);
                    Offices.hoursTo(s, told);
                    s.report(0, 1, 9500, 7);
                    Offices.warn(s, text);
                    Check.due(text + " told at " + told + ", wire " + wire, s.count(4), told + wire <= 10 ? 1 : 0);
                }
            }
        }
    }

    /** The office section: "by what is KNOWN at it": also for WATCH w - 1, of which a REPORT may come as late. */
    private static void ofTheWatchBeforeTooWhatIsKnown() {
        for (int told = 0; told <= 9; told++) {
            for (int wire = 0; wire <= 12; wire++) {
                StormFlags s = Offices.withPort(0);
                s.port(0, 0, 1, wire);
                s.hours(told);
                s.report(1, 0, 10000, 0);
                Offices.hoursTo(s, 9);
                s.report(0, 1, 9500, 0);
                Offices.warn(s, "cone coast=0 and fall>499");
                Check.due("told at " + told + ", wire " + wire, s.count(4), told + wire <= 10 ? 1 : 0);
            }
        }
    }

    /** The office section: "by what is KNOWN at it": of two REPORTS for WATCH w - 1 the later one, once it is KNOWN. */
    private static void ofTheWatchBeforeTheReportThatCounts() {
        for (int wire = 0; wire <= 3; wire++) {
            StormFlags s = Offices.withPort(0);
            s.port(0, 0, 1, wire);
            s.report(1, 0, 10000, 0);
            s.hours(9);
            s.report(1, 0, 9600, 0);
            s.report(0, 1, 9500, 0);
            Offices.warn(s, "cone coast=0 and fall>499; drum coast=0 and fall>99");
            Check.due("warnings, wire " + wire, s.count(4), wire <= 1 ? 1 : 2);
        }
    }

    /** The office section: "by what is KNOWN at it": a REPORT told in the hour of the office comes too late for it. */
    private static void whatIsToldAtTheOfficesHourIsTooLate() {
        StormFlags s = Offices.withPort(0);
        Check.rules(s, "cone low<9501; cone wind>6");
        s.hours(10);
        s.report(0, 1, 9500, 7);
        s.hours(8);
        Check.due("warnings by hour 18", s.count(4), 0);
    }

    /** The office section: "by what is KNOWN at it": of two REPORTS the later one, once it is KNOWN. */
    private static void theOfficeGoesByTheReportThatCounts() {
        for (int wire = 0; wire <= 2; wire++) {
            StormFlags s = Offices.withPort(wire);
            s.hours(8);
            s.report(0, 1, 9500, 12);
            s.hours(1);
            s.report(0, 1, 9600, 3);
            Offices.warn(s, "cone low<9501; cone wind>3; drum low<9601; drum wind>2");
            boolean both = wire < 2;
            Check.due("warnings, wire " + wire, s.count(4), both ? 2 : 4);
            Check.due("the first rule", s.warning(0, 3), both ? 2 : 0);
        }
    }

    /** The office section: "of each COAST that has PORTS, by numbers, each RULE, in order": 4 COASTS, 8 RULES. */
    private static void coastsByNumbersAndRulesInOrder() {
        StormFlags s = new StormFlags();
        for (int coast = 3; coast >= 0; coast--) {
            s.port(coast, coast, coast, 0);
        }
        s.hours(8);
        s.report(0, 1, 9500, 0);
        Offices.warn(s, "cone low<9501;drum low<9501;cone low<9501;cone low<9501;drum low<9501;drum low<9501;"
                + "drum low<9501;cone low<9501");
        Check.due("warnings", s.count(4), 32);
        for (int i = 0; i < 32; i++) {
            Check.dueWarning(s, i, 10, i / 8, "01001110".charAt(i % 8) - '0', i % 8);
        }
    }

    /** The office section: "of each COAST that has PORTS": none of a COAST that has none, whichever it is. */
    private static void aCoastWithoutPortsHasNoWarnings() {
        for (int coast = 0; coast <= 3; coast++) {
            StormFlags s = new StormFlags();
            s.port(7, 7, coast, 0);
            s.hours(8);
            s.report(0, 1, 9500, 0);
            Offices.warn(s, "cone low<9501; cone coast=0; cone coast=1; cone coast=2; cone coast=3");
            Check.due("warnings with coast " + coast, s.count(4), 2);
            Check.dueWarning(s, 0, 10, coast, 0, 0);
            Check.dueWarning(s, 1, 10, coast, 0, coast + 1);
        }
    }

    /** The office section: "each RULE .. of which all CONDITIONS hold": one that fails, at each place, is enough. */
    private static void allConditionsMustHold() {
        String[] right = {"low<9501", "fall>499", "wind>6", "coast=0"};
        String[] wrong = {"low<9500", "fall>500", "wind>7", "coast=1"};
        for (int fails = 0; fails < 16; fails++) {
            StringBuilder text = new StringBuilder("cone ");
            for (int i = 0; i < 4; i++) {
                text.append(i == 0 ? "" : " and ").append((fails >> i & 1) == 1 ? wrong[i] : right[i]);
            }
            Check.due(text.toString(), warns(10000, 9500, 7, text.toString()), fails == 0);
        }
        Check.due("one holds, of one word", warns(10000, 9500, 7, "cone wind>6 and wind>7"), false);
        Check.due("the other holds, of one word", warns(10000, 9500, 7, "cone wind>7 and wind>6"), false);
        Check.due("both hold, of one word", warns(10000, 9500, 7, "cone wind>6 and wind>5"), true);
    }

    /** Whether the office warns at hour 10 by one port's glass for watch 0 and 1, and its wind; below 0 not told. */
    private static boolean warns(int before, int glass, int wind, String text) {
        StormFlags s = Offices.withPort(0);
        if (before >= 0) {
            s.report(0, 0, before, 12);
        }
        s.hours(8);
        if (glass >= 0) {
            s.report(0, 1, glass, wind);
        }
        Offices.warn(s, text);
        return s.count(4) > 0;
    }

    /** The office section: "fall: the FIELD .. for WATCH w - 1 less that for WATCH w is above it": not at it. */
    private static void fallIsAbove() {
        Check.due("500 > 499", warns(10000, 9500, 0, "cone fall>499"), true);
        Check.due("500 > 500", warns(10000, 9500, 0, "cone fall>500"), false);
        Check.due("500 > 501", warns(10000, 9500, 0, "cone fall>501"), false);
        Check.due("1 > 0", warns(9501, 9500, 0, "cone fall>0"), true);
        Check.due("0 > 0", warns(9500, 9500, 0, "cone fall>0"), false);
        Check.due("a rise > 0", warns(9499, 9500, 0, "cone fall>0"), false);
        Check.due("the greatest rise > 0", warns(9000, 10500, 0, "cone fall>0"), false);
        Check.due("the greatest fall > 1499", warns(10500, 9000, 0, "cone fall>1499"), true);
        Check.due("the greatest fall > 1500", warns(10500, 9000, 0, "cone fall>1500"), false);
        Check.due("the greatest fall > 99999", warns(10500, 9000, 0, "cone fall>99999"), false);
    }

    /** The office section: "for WATCH w - 1 less that for WATCH w": no other WATCHES than these two. */
    private static void fallIsOfTheLastTwoWatches() {
        StormFlags s = Offices.withPort(0);
        s.report(0, 0, 10500, 0);
        s.hours(8);
        s.report(0, 1, 9700, 0);
        s.hours(8);
        s.report(0, 2, 9500, 0);
        Offices.warn(s, "cone fall>199; drum fall>200");
        Check.due("warnings", s.count(4), 1);
        Check.dueWarning(s, 0, 18, 0, 0, 0);
    }

    /** The office section: "low: that for WATCH w is below it": not at it. */
    private static void lowIsBelow() {
        Check.due("9500 < 9499", warns(10000, 9500, 0, "cone low<9499"), false);
        Check.due("9500 < 9500", warns(10000, 9500, 0, "cone low<9500"), false);
        Check.due("9500 < 9501", warns(10000, 9500, 0, "cone low<9501"), true);
        Check.due("the lowest < 9000", warns(10000, 9000, 0, "cone low<9000"), false);
        Check.due("the lowest < 9001", warns(10000, 9000, 0, "cone low<9001"), true);
        Check.due("the highest < 10500", warns(9000, 10500, 0, "cone low<10500"), false);
        Check.due("the highest < 10501", warns(9000, 10500, 0, "cone low<10501"), true);
        Check.due("the highest < 99999", warns(9000, 10500, 0, "cone low<99999"), true);
        Check.due("the lowest < 0", warns(9000, 9000, 0, "cone low<0"), false);
    }

    /** The office section: "(both: false where a FIELD is none)": that of one WATCH, of the other, of both. */
    private static void fallIsFalseWithoutAField() {
        Check.due("fall with both", warns(10000, 9500, 0, "cone fall>0"), true);
        Check.due("fall without watch 1", warns(10000, -1, 0, "cone fall>0"), false);
        Check.due("fall without watch 0", warns(-1, 9500, 0, "cone fall>0"), false);
        Check.due("fall without either", warns(-1, -1, 0, "cone fall>0"), false);
    }

    /** The office section: "(both: false where a FIELD is none)": low needs that of WATCH w alone. */
    private static void lowIsFalseWithoutAField() {
        Check.due("low with both", warns(10000, 9500, 0, "cone low<99999"), true);
        Check.due("low without watch 0", warns(-1, 9500, 0, "cone low<99999"), true);
        Check.due("low without watch 1", warns(10000, -1, 0, "cone low<99999"), false);
        Check.due("low without either", warns(-1, -1, 0, "cone low<99999"), false);
    }

    /** The office section: "wind: .. the REPORT that counts for WATCH w has a WIND above it": not at it. */
    private static void windIsAbove() {
        Check.due("7 > 6", warns(-1, 9500, 7, "cone wind>6"), true);
        Check.due("7 > 7", warns(-1, 9500, 7, "cone wind>7"), false);
        Check.due("7 > 8", warns(-1, 9500, 7, "cone wind>8"), false);
        Check.due("0 > 0", warns(-1, 9500, 0, "cone wind>0"), false);
        Check.due("1 > 0", warns(-1, 9500, 1, "cone wind>0"), true);
        Check.due("12 > 11", warns(-1, 9500, 12, "cone wind>11"), true);
        Check.due("12 > 12", warns(-1, 9500, 12, "cone wind>12"), false);
    }

    /** The office section: "the REPORT that counts for WATCH w": none, or one of another WATCH, is no wind. */
    private static void windIsOfTheWatch() {
        Check.due("no report", warns(-1, -1, 0, "cone wind>0"), false);
        Check.due("a report for watch 0 alone", warns(9500, -1, 0, "cone wind>0"), false);
        Check.due("a report for watch 0, a calm for watch 1", warns(9500, 9500, 0, "cone wind>0"), false);
    }

    /** The office section: "of some PORT of the COAST": any one of them, the first or the last, and no other. */
    private static void windIsOfSomePortOfTheCoast() {
        for (int windy = 0; windy < 4; windy++) {
            StormFlags s = new StormFlags();
            for (int i = 0; i < 4; i++) {
                s.port(i, i, i == 3 ? 2 : 1, 0);
            }
            s.hours(8);
            for (int i = 0; i < 4; i++) {
                s.report(i, 1, 9500, i == windy ? 8 : 7);
            }
            Offices.warn(s, "cone wind>7");
            Check.due("warnings", s.count(4), 1);
            Check.dueWarning(s, 0, 10, windy == 3 ? 2 : 1, 0, 0);
        }
    }

    /** The office section: "coast: the COAST is of that number.": each COAST, and numbers that are none. */
    private static void coastIsOfThatNumber() {
        StormFlags s = new StormFlags();
        for (int coast = 0; coast <= 3; coast++) {
            s.port(coast, coast, coast, 0);
        }
        Offices.warn(s, "cone coast=3; cone coast=2; cone coast=1; cone coast=0; drum coast=4; drum coast=99999");
        Check.due("warnings", s.count(4), 4);
        for (int coast = 0; coast <= 3; coast++) {
            Check.dueWarning(s, coast, 10, coast, 0, 3 - coast);
        }
    }

    /** The office section: "(at most 200 are sent; what would be more is not)": 199, 200, and no 201st. */
    private static void atMost200AreSent() {
        StormFlags s = Offices.withPort(0);
        Check.rules(s, "cone coast=0");
        Offices.hoursTo(s, 8 * 199 + 2);
        Check.due("warnings by the 199th office", s.count(4), 199);
        s.hours(8);
        Check.due("warnings by the 200th office", s.count(4), 200);
        Check.dueWarning(s, 199, 8 * 200 + 2, 0, 0, 0);
        s.hours(8);
        Check.due("warnings by the 201st office", s.count(4), 200);
        Check.dueThrow("the 201st", s, x -> x.warning(200, 0), IndexOutOfBoundsException.class);
        Check.due("the last one's last hour", s.flies(0, 8 * 200 + 2 + 23), 1);
        Check.due("the hour behind it", s.flies(0, 8 * 200 + 2 + 24), 0);
    }

    /** The office section: "(at most 200 are sent; what would be more is not)": in the midst of an office's work. */
    private static void the200thMayBeInTheMidst() {
        StormFlags s = new StormFlags();
        for (int coast = 0; coast < 4; coast++) {
            s.port(coast, 0, coast, coast);
        }
        Check.rules(s, "drum coast=0;drum coast=1;drum coast=2;cone coast=0;cone coast=1;cone coast=2;drum coast=3");
        Offices.hoursTo(s, 8 * 28 + 2);
        Check.due("28 times 7", s.count(4), 196);
        s.hours(8);
        Check.due("at most 200", s.count(4), 200);
        Check.dueWarning(s, 199, 8 * 29 + 2, 1, 0, 4);
        Check.due("a coast of which none was sent any more", s.score(3, 3), 28);
    }

    /** The office section: "numbered from 0 on"; promise 15; the terms' end: "there is no such .. WARNING". */
    private static void aWarningHasItsNumber() {
        Check.dueIndex("warning", Offices::busy, 4, (s, warning) -> s.warning(warning, 0));
        Check.dueIndex("warning of none", s -> s.hours(9), 0, (s, warning) -> s.warning(warning, 0));
        Check.dueIndex("warning of 200", s -> {
            s.port(0, 0, 0, 0);
            Check.rules(s, "cone coast=0" + ";cone coast=0".repeat(7));
            Offices.hoursTo(s, 300);
        }, 200, (s, warning) -> s.warning(warning, 3));
    }

    /** Promise 15: "what 0 its hour, 1 COAST, 2 0 a cone, 1 a drum, 3 the RULE (.. from 0 on)": RULES 0 to 7. */
    private static void aWarningTellsWhatItIs() {
        StormFlags s = new StormFlags();
        s.port(0, 0, 3, 12);
        for (int rule = 0; rule < 8; rule++) {
            for (int flag = 0; flag < 2; flag++) {
                String text = "cone coast=1;".repeat(rule) + (flag == 0 ? "cone" : "drum") + " coast=3";
                Offices.warn(s, text);
                int number = 2 * rule + flag;
                Check.dueWarning(s, number, 8 * (number + 1) + 2, 3, flag, rule);
            }
        }
    }

    /** Promise 15: "3 the RULE (as the text told it then": a later text, or none, changes nothing of it. */
    private static void aWarningStaysAsItsTextToldIt() {
        StormFlags s = Offices.withPort(0);
        Check.rules(s, "cone coast=1; drum coast=0");
        s.hours(10);
        Check.rules(s, "cone coast=0");
        Check.dueWarning(s, 0, 10, 0, 1, 1);
        Check.rules(s, "");
        Check.dueWarning(s, 0, 10, 0, 1, 1);
    }

    /** Promise 15: "NoSuchElementException: another what.": next to 0 and 3, and far away. */
    private static void aWarningHasNoOtherWhat() {
        for (int what : new int[] {Check.LOWEST, -1, 4, Check.HIGHEST}) {
            Check.dueThrowAndNoChange("what " + what, Offices::busy, s -> s.warning(0, what),
                    NoSuchElementException.class);
        }
    }
}
