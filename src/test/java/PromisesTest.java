/** Promises 1 to 18, each with ordinary inputs, the edges that the document names, and wrong inputs. */
public final class PromisesTest {
    private static final int NONE = StormFlags.NONE;
    private static final int LOWEST = Integer.MIN_VALUE;
    private static final int HIGHEST = Integer.MAX_VALUE;
    private static final int[] FAR = {LOWEST, -1, HIGHEST};

    public static void main(String[] args) {
        promise1NewObject();
        promise2Feed();
        promise3End();
        promise4Port();
        promise5Report();
        promise6Counts();
        promise7Field();
        promise8Rules();
        promise8RulesFail();
        promise9Fault();
        promise10Gale();
        promise11Boat();
        promise12Trip();
        promise13Hours();
        promise13Office();
        promise13OfficeByWhatIsKnown();
        promise13OfficeLimit();
        promise13Boats();
        promise14Flies();
        promise15Warning();
        promise16Look();
        promise17Score();
        promise18Count();
        Check.leave();
    }

    private static void promise1NewObject() {
        StormFlags s = new StormFlags();
        for (int what = 0; what <= 8; what++) {
            Check.due("count(" + what + ") of a new object", s.count(what), 0);
        }
        Check.due("fault() of a new object", s.fault(), NONE);
        Check.due("the tape of a new object", s.end(1), false);
        Check.due("the field of a new object", s.field(0, 0, 0, 2000), NONE);
        Check.dueThrow("flies of a new object", s, x -> x.flies(0, 0), IndexOutOfBoundsException.class);
        StormFlags other = new StormFlags();
        other.port(0, 0, 0, 0);
        other.hours(5);
        Check.due("ports of another object", s.count(1), 0);
        Check.due("now of another object", s.count(0), 0);
    }

    private static void promise2Feed() {
        StormFlags s = new StormFlags();
        for (int i = 1; i <= 20; i++) {
            Check.due("feed " + i, s.feed(i, LOWEST, HIGHEST, -1, 0), 20 * i);
        }
        Check.due("feed beyond 400", s.feed(0, 0, 0, 0, 0), NONE);
        Check.due("none came", s.end(401), false);
        Check.due("400 stand", s.end(400), true);
        s.end(381);
        Check.due("feed from 381", s.feed(0, 0, 0, 0, 0), NONE);
        s.end(380);
        Check.due("feed from 380", s.feed(0, 0, 0, 0, 0), 400);

        StormFlags order = new StormFlags();
        order.feed(0x636f6e65, 0x20666f6c, 0x6c203e20, 0x31000000, 0);
        order.end(13);
        Check.dueThrow("'cone foll > 1'", order, StormFlags::rules, IllegalArgumentException.class);
        Check.due("its fault", order.fault(), 5);
        order.feed(0x636f6e65, 0x2066616c, 0x6c203e20, 0x31000000, 0);
        order.end(13);
        Check.due("the highest byte comes first", order.rules(), 1);

        StormFlags high = new StormFlags();
        high.feed(0x20202020, 0x20202020, 0x202020e1, 0x20202020, 0x20202020);
        Check.dueThrow("a byte above 127", high, StormFlags::rules, IllegalArgumentException.class);
        Check.due("a byte above 127 is where it is", high.fault(), 11);

        StormFlags behind = new StormFlags();
        Check.type(behind, "cone low");
        Check.type(behind, "<9000");
        Check.due("a feed comes behind the tape", behind.rules(), 1);
    }

    private static void promise3End() {
        StormFlags s = new StormFlags();
        Check.due("end(0) of nothing", s.end(0), true);
        Check.due("end(1) of nothing", s.end(1), false);
        s.feed(1, 2, 3, 4, 5);
        Check.due("end(21) of 20", s.end(21), false);
        Check.due("end(-1)", s.end(-1), false);
        Check.due("end(lowest)", s.end(LOWEST), false);
        Check.due("end(highest)", s.end(HIGHEST), false);
        Check.due("nothing happened", s.end(20), true);
        Check.due("end(7) of 20", s.end(7), true);
        Check.due("end(8) of 7", s.end(8), false);
        Check.due("feed behind 7", s.feed(0, 0, 0, 0, 0), 27);
        Check.due("end(0)", s.end(0), true);
        Check.due("rules() of a tape cut to nothing", s.rules(), 0);
    }

    private static void promise4Port() {
        StormFlags s = new StormFlags();
        Check.due("the least port", s.port(0, 0, 0, 0), 0);
        Check.due("the greatest port", s.port(15, 15, 3, 12), 1);
        for (int i = 2; i < 12; i++) {
            Check.due("port " + i, s.port(1, 1, i % 4, i), i);
        }
        Check.due("ports", s.count(1), 12);
        Check.dueThrow("a 13th port", s, x -> x.port(1, 1, 1, 1), UnsupportedOperationException.class);
        Check.dueThrow("a wrong 13th port", s, x -> x.port(1, 1, 1, 13), IllegalArgumentException.class);
        Check.due("ports still", s.count(1), 12);

        Check.Run setup = PromisesTest::busyOffice;
        int[][] wrong = {{16, 0, 0, 0}, {0, 16, 0, 0}, {0, 0, 4, 0}, {0, 0, 0, 13}};
        for (int[] w : wrong) {
            Check.dueThrowAndNoChange("a port out of bounds", setup, x -> x.port(w[0], w[1], w[2], w[3]),
                    IllegalArgumentException.class);
        }
        for (int far : FAR) {
            Check.dueThrow("x " + far, s, x -> x.port(far, 0, 0, 0), IllegalArgumentException.class);
            Check.dueThrow("y " + far, s, x -> x.port(0, far, 0, 0), IllegalArgumentException.class);
            Check.dueThrow("coast " + far, s, x -> x.port(0, 0, far, 0), IllegalArgumentException.class);
            Check.dueThrow("wire " + far, s, x -> x.port(0, 0, 0, far), IllegalArgumentException.class);
        }
    }

    /** Two ports of one coast and one of another, boats, a gale, reports and rules, at hour 11. */
    private static void busyOffice(StormFlags s) {
        s.port(3, 4, 0, 0);
        s.port(5, 4, 0, 5);
        s.port(9, 9, 2, 1);
        Check.rules(s, "cone low<9900; drum wind>7 and coast=0");
        s.boat(0, 0, 9);
        s.boat(1, 2, 13);
        s.report(0, 0, 10100, 3);
        s.hours(8);
        s.report(0, 1, 9800, 9);
        s.report(1, 1, 9700, 5);
        s.gale(0, 20, 25, 9);
        s.gale(1, 13, 14, 12);
        s.hours(3);
        s.trip(0, 19, 5);
        s.trip(1, 12, 30);
    }

    private static void promise5Report() {
        StormFlags s = new StormFlags();
        s.port(0, 0, 0, 0);
        Check.due("the least report", s.report(0, 0, 9000, 0), 0);
        Check.due("the greatest report", s.report(0, 0, 10500, 12), 1);
        Check.dueThrow("a watch behind now", s, x -> x.report(0, 1, 9000, 0), IllegalArgumentException.class);
        s.hours(7);
        Check.dueThrow("watch 1 at hour 7", s, x -> x.report(0, 1, 9000, 0), IllegalArgumentException.class);
        s.hours(1);
        Check.due("watch 1 at hour 8", s.report(0, 1, 9000, 0), 2);
        Check.due("watch 0 at hour 8", s.report(0, 0, 9000, 0), 3);
        for (int i = 4; i < 300; i++) {
            Check.due("report " + i, s.report(0, 0, 9000 + i, 0), i);
        }
        Check.dueThrow("a 301st report", s, x -> x.report(0, 0, 9000, 0), UnsupportedOperationException.class);
        Check.dueThrow("a wrong 301st report", s, x -> x.report(0, 0, 9000, 13), IllegalArgumentException.class);
        Check.dueThrow("a 301st report of no port", s, x -> x.report(1, 0, 9000, 13), IndexOutOfBoundsException.class);
        Check.due("reports", s.count(2), 300);
        Check.due("the 300th counts", s.counts(0, 0, 8), 299);

        Check.Run setup = PromisesTest::busyOffice;
        int[][] wrong = {{0, 2, 9000, 0}, {0, -1, 9000, 0}, {0, 1, 8999, 0}, {0, 1, 10501, 0}, {0, 1, 9000, -1},
            {0, 1, 9000, 13}, {0, LOWEST, 9000, 0}, {0, HIGHEST, 9000, 0}, {0, 1, LOWEST, 0}, {0, 1, HIGHEST, 0},
            {0, 1, 9000, LOWEST}, {0, 1, 9000, HIGHEST}, {0, 1 << 29, 9000, 0}};
        for (int[] w : wrong) {
            Check.dueThrowAndNoChange("a report out of bounds", setup, x -> x.report(w[0], w[1], w[2], w[3]),
                    IllegalArgumentException.class);
        }
        for (int port : new int[] {LOWEST, -1, 3, HIGHEST}) {
            Check.dueThrowAndNoChange("a report of port " + port, setup, x -> x.report(port, -1, 0, 99),
                    IndexOutOfBoundsException.class);
        }
        StormFlags late = new StormFlags();
        late.port(0, 0, 0, 12);
        hoursTo(late, 2000);
        Check.due("the last watch", late.report(0, 250, 9000, 0), 0);
        Check.dueThrow("a watch too many", late, x -> x.report(0, 251, 9000, 0), IllegalArgumentException.class);
        Check.due("not known at 2011", late.counts(0, 250, 2011), NONE);
        Check.due("known at 2012", late.counts(0, 250, 2012), 0);
    }

    private static void hoursTo(StormFlags s, int hour) {
        for (int now = s.count(0); now < hour; now = s.hours(Math.min(200, hour - now))) {
            continue;
        }
    }

    private static void promise6Counts() {
        StormFlags s = new StormFlags();
        s.port(0, 0, 0, 3);
        s.port(1, 0, 0, 0);
        Check.due("no report", s.counts(0, 0, 100), NONE);
        s.report(0, 0, 9500, 1);
        s.hours(2);
        s.report(0, 0, 9600, 1);
        Check.due("not known yet", s.counts(0, 0, 2), NONE);
        Check.due("known from told and wire on", s.counts(0, 0, 3), 0);
        Check.due("the later one is not known yet", s.counts(0, 0, 4), 0);
        Check.due("the one told last", s.counts(0, 0, 5), 1);
        Check.due("of another port", s.counts(1, 0, 5), NONE);
        s.report(1, 0, 9700, 1);
        Check.due("of the other port", s.counts(1, 0, 5), 2);
        Check.due("of the first port still", s.counts(0, 0, 5), 1);
        s.hours(6);
        s.report(0, 1, 9700, 1);
        Check.due("of another watch", s.counts(0, 0, 2000), 1);
        Check.due("of the other watch", s.counts(0, 1, 11), 3);
        s.report(0, 0, 9700, 1);
        Check.due("told late for an old watch", s.counts(0, 0, 11), 4);
        Check.due("the hour lowest", s.counts(0, 0, LOWEST), NONE);
        Check.due("the hour highest", s.counts(0, 0, HIGHEST), 4);
        for (int watch : new int[] {LOWEST, -1, 2, 251, HIGHEST}) {
            Check.due("watch " + watch, s.counts(0, watch, 2000), NONE);
        }
        for (int port : new int[] {LOWEST, -1, 2, HIGHEST}) {
            Check.dueThrowAndNoChange("port " + port, PromisesTest::busyOffice, x -> x.counts(port == 2 ? 3 : port, 0, 0),
                    IndexOutOfBoundsException.class);
        }
    }

    private static void promise7Field() {
        StormFlags s = new StormFlags();
        s.port(0, 0, 0, 0);
        s.port(15, 15, 1, 2);
        s.port(3, 4, 2, 0);
        Check.due("none without a report", s.field(0, 0, 0, 0), NONE);
        s.report(0, 0, 10001, 0);
        Check.due("one report alone", s.field(15, 15, 0, 0), 10001);
        s.report(1, 0, 9000, 0);
        Check.due("the second is not known yet", s.field(0, 0, 0, 1), 10001);
        // Weights 1000 by 1 and 1000 by 451, rounded down: 1000 and 2.
        Check.due("both", s.field(0, 0, 0, 2), (10001 * 1000 + 9000 * 2) / 1002);
        Check.due("both from the other side", s.field(15, 15, 0, 2), (10001 * 2 + 9000 * 1000) / 1002);
        s.report(2, 0, 9500, 0);
        // At 3, 0: 1000 by 10, by 1 + 144 + 225, by 1 + 16.
        Check.due("three", s.field(3, 0, 0, 2), (10001 * 100 + 9000 * 2 + 9500 * 58) / 160);
        // At 1, 3: 1000 by 11, by 1 + 196 + 144, by 1 + 4 + 1.
        Check.due("three elsewhere", s.field(1, 3, 0, 2), (10001 * 90 + 9000 * 2 + 9500 * 166) / 258);
        Check.due("another watch", s.field(3, 0, 1, 2), NONE);
        Check.due("watch -1", s.field(3, 0, -1, 2), NONE);
        Check.due("the watch lowest", s.field(3, 0, LOWEST, 2), NONE);
        Check.due("the watch highest", s.field(3, 0, HIGHEST, 2), NONE);
        Check.due("ahead of all hours", s.field(3, 0, 0, -1), NONE);
        Check.due("the hour lowest", s.field(3, 0, 0, LOWEST), NONE);
        Check.due("the hour highest", s.field(0, 0, 0, HIGHEST), (10001 * 1000 + 9000 * 2 + 9500 * 38) / 1040);
        int[][] wrong = {{16, 0}, {0, 16}, {-1, 0}, {0, -1}, {LOWEST, 0}, {0, LOWEST}, {HIGHEST, 0}, {0, HIGHEST}};
        for (int[] w : wrong) {
            Check.dueThrowAndNoChange("no place", PromisesTest::busyOffice, x -> x.field(w[0], w[1], 0, 0),
                    IllegalArgumentException.class);
        }
        StormFlags full = new StormFlags();
        for (int i = 0; i < 12; i++) {
            full.port(7, 7, 0, 0);
            full.report(i, 0, 10500, 12);
        }
        Check.due("twelve of the highest glass", full.field(7, 7, 0, 0), 10500);
    }

    private static void promise8Rules() {
        Check.dueRules("", 0);
        Check.dueRules("   ", 0);
        Check.dueRules("cone fall>0", 1);
        Check.dueRules("drum low<99999", 1);
        Check.dueRules("cone wind>00012", 1);
        Check.dueRules("drum coast=3", 1);
        Check.dueRules("  cone   fall  >  1  and  low  <  2  ;  drum  wind  >  3  ", 2);
        Check.dueRules("cone fall>1and low<2and wind>3and coast=4;drum low<1", 2);
        String eight = "cone low<1;drum low<1;cone low<1;drum low<1;cone low<1;drum low<1;cone low<1;drum low<1";
        Check.dueRules(eight, 8);
        StormFlags s = new StormFlags();
        Check.due("a text", Check.rules(s, eight), 8);
        Check.due("the tape is used up", s.end(1), false);
        Check.due("a text in place of the one before", Check.rules(s, "cone low<1"), 1);
        Check.due("rules", s.count(3), 1);
        Check.due("blanks alone", Check.rules(s, "  "), 0);
        Check.due("no rules", s.count(3), 0);
    }

    private static void promise8RulesFail() {
        Check.dueThrowAndNoChange("a wrong text", PromisesTest::busyOffice, s -> {
            Check.type(s, "cone low<10500; drum low<10500; flag");
            s.rules();
        }, IllegalArgumentException.class);
        StormFlags s = new StormFlags();
        Check.rules(s, "cone low<1;cone low<1");
        Check.type(s, "cone low<10500; drum low<10500; drum");
        Check.dueThrow("a wrong text", s, StormFlags::rules, IllegalArgumentException.class);
        Check.due("the tape is used up by a wrong text", s.end(1), false);
        Check.due("the rules stay", s.count(3), 2);
        s.port(0, 0, 0, 0);
        s.hours(8);
        s.report(0, 1, 9000, 0);
        s.hours(2);
        Check.due("the old rules hold", s.count(4), 0);
        Check.due("a right text behind a wrong one", Check.rules(s, "cone low<10500"), 1);
    }

    private static void promise9Fault() {
        Check.dueFault("flag low<1", 0);
        Check.dueFault("  flag low<1", 2);
        Check.dueFault(";", 0);
        Check.dueFault(" ; cone low<1", 1);
        Check.dueFault("1", 0);
        Check.dueFault("\u0000", 0);
        Check.dueFault("\t", 0);
        Check.dueFault("  \n", 2);
        Check.dueFault("and", 0);
        Check.dueFault("low<1", 0);
        Check.dueFault("cones low<1", 0);
        Check.dueFault("con low<1", 0);
        Check.dueFault("bone low<1", 0);
        Check.dueFault("drun low<1", 0);
        Check.dueFault("Cone low<1", 0);
        Check.dueFault("conelow<1", 0);
        Check.dueFault("cone", 4);
        Check.dueFault("cone  ", 6);
        Check.dueFault("cone;", 4);
        Check.dueFault("cone drum", 5);
        Check.dueFault("coneX", 4);
        Check.dueFault("cone falls > 1", 5);
        Check.dueFault("cone fal > 1", 5);
        Check.dueFault("cone fall", 9);
        Check.dueFault("cone fall <", 10);
        Check.dueFault("cone fall = 1", 10);
        Check.dueFault("cone low > 1", 9);
        Check.dueFault("cone wind < 1", 10);
        Check.dueFault("cone coast > 1", 11);
        Check.dueFault("cone coast == 1", 12);
        Check.dueFault("cone low <", 10);
        Check.dueFault("cone low < ", 11);
        Check.dueFault("cone low < x", 11);
        Check.dueFault("cone low < -1", 11);
        Check.dueFault("cone low < 123456", 11);
        Check.dueFault("cone low < 000000", 11);
        Check.dueFault("cone low < 1 2", 13);
        Check.dueFault("cone low < 1/", 12);
        Check.dueFault("cone low < 1:", 12);
        Check.dueFault("cone low < 1 or", 13);
        Check.dueFault("cone low < 1 ands low<1", 13);
        Check.dueFault("cone low < 1 an low<1", 13);
        Check.dueFault("cone low < 1and", 15);
        Check.dueFault("cone low < 1 and ", 17);
        Check.dueFault("cone low < 1 and and", 17);
        Check.dueFault("cone low < 1 and ;", 17);
        Check.dueFault("cone low < 1 cone", 13);
        Check.dueFault("cone low<1;", 11);
        Check.dueFault("cone low<1; ", 12);
        Check.dueFault("cone low<1;;", 11);
        Check.dueFault("cone low<1; low<1", 12);
        Check.dueFault("cone low<1 `", 11);
        Check.dueFault("cone low<1 {", 11);
        Check.dueFault("cone low{<1", 8);
        Check.dueFault("cone low\u00e1<1", 8);
        String four = "cone low<1 and low<1 and low<1 and low<1";
        Check.dueRules(four, 1);
        Check.dueFault(four + " and low<1", 41);
        Check.dueFault(four + "and", 40);
        Check.dueFault(four + ";" + four + "  and", 83);
        Check.dueRules(four + ";" + four, 2);
        String eight = "cone low<1;cone low<1;cone low<1;cone low<1;cone low<1;cone low<1;cone low<1;cone low<1";
        Check.dueFault(eight + ";", 88);
        Check.dueFault(eight + " ;  ", 91);
        Check.dueFault(eight + "; cone low<1", 89);
        Check.dueFault(eight + "; flag", 89);
        Check.dueFault(eight + ";;", 88);
        Check.dueFault(eight + " cone", 88);

        StormFlags full = new StormFlags();
        for (int i = 0; i < 20; i++) {
            full.feed(0x20202020, 0x20202020, 0x20202020, 0x20202020, i < 19 ? 0x20202020 : 0x636f6e65);
        }
        Check.dueThrow("a full tape", full, StormFlags::rules, IllegalArgumentException.class);
        Check.due("the full tape's length", full.fault(), 400);

        StormFlags s = new StormFlags();
        Check.due("fault() ahead of any rules()", s.fault(), NONE);
        Check.type(s, "cone  x");
        Check.thrownBy(s, StormFlags::rules);
        Check.due("the fault", s.fault(), 6);
        Check.due("the fault again", s.fault(), 6);
        s.port(0, 0, 0, 0);
        s.feed(0, 0, 0, 0, 0);
        Check.due("the fault behind other calls", s.fault(), 6);
        Check.rules(s, "");
        Check.due("no fault behind a right text", s.fault(), NONE);
    }

    private static void promise10Gale() {
        StormFlags s = new StormFlags();
        s.port(0, 0, 0, 0);
        Check.due("the first gale", s.gale(0, 1, 1, 8), 0);
        Check.due("the longest gale", s.gale(0, 1, 2000, 12), 1);
        Check.due("the last gale", s.gale(0, 2000, 2000, 12), 2);
        for (int i = 3; i < 30; i++) {
            Check.due("gale " + i, s.gale(0, i, i + 5, 9), i);
        }
        Check.due("gales", s.count(5), 30);
        Check.dueThrow("a 31st gale", s, x -> x.gale(0, 1, 1, 8), UnsupportedOperationException.class);
        Check.dueThrow("a wrong 31st gale", s, x -> x.gale(0, 1, 1, 7), IllegalArgumentException.class);
        Check.dueThrow("a 31st gale nowhere", s, x -> x.gale(1, 1, 1, 7), IndexOutOfBoundsException.class);
        Check.due("gales still", s.count(5), 30);
        int[][] wrong = {{0, 11, 12, 8}, {0, 10, 12, 8}, {0, 0, 12, 8}, {0, 13, 12, 8}, {0, 12, 2001, 8},
            {0, 2001, 2001, 8}, {0, 12, 12, 7}, {0, 12, 12, 13}, {0, LOWEST, 12, 8}, {0, HIGHEST, 12, 8},
            {0, 12, LOWEST, 8}, {0, 12, HIGHEST, 8}, {0, 12, 12, LOWEST}, {0, 12, 12, HIGHEST}};
        for (int[] w : wrong) {
            Check.dueThrowAndNoChange("gale " + w[1] + " to " + w[2] + " of " + w[3], PromisesTest::busyOffice,
                    x -> x.gale(w[0], w[1], w[2], w[3]), IllegalArgumentException.class);
        }
        for (int port : new int[] {LOWEST, -1, 3, HIGHEST}) {
            Check.dueThrowAndNoChange("gale at " + port, PromisesTest::busyOffice, x -> x.gale(port, 0, -1, 0),
                    IndexOutOfBoundsException.class);
        }
        StormFlags late = new StormFlags();
        late.port(0, 0, 0, 0);
        late.hours(11);
        Check.due("an hour behind now", late.gale(0, 12, 12, 8), 0);
        hoursTo(late, 2000);
        Check.dueThrow("a gale at the end", late, x -> x.gale(0, 2000, 2000, 8), IllegalArgumentException.class);
    }

    private static void promise11Boat() {
        StormFlags s = new StormFlags();
        s.port(0, 0, 0, 0);
        Check.due("the least boat", s.boat(0, 0, 8), 0);
        Check.due("the greatest boat", s.boat(0, 2, 13), 1);
        for (int i = 2; i < 12; i++) {
            Check.due("boat " + i, s.boat(0, 1, 10), i);
            Check.due("it is at home", s.look(i, 0), 0);
            Check.due("it never sailed", s.look(i, 1), 0);
            Check.due("it never stayed", s.look(i, 2), 0);
            Check.due("it has no hour", s.look(i, 3), NONE);
        }
        Check.due("boats", s.count(6), 12);
        Check.dueThrow("a 13th boat", s, x -> x.boat(0, 0, 8), UnsupportedOperationException.class);
        Check.dueThrow("a wrong 13th boat", s, x -> x.boat(0, 0, 7), IllegalArgumentException.class);
        Check.dueThrow("a 13th boat of no port", s, x -> x.boat(1, 0, 7), IndexOutOfBoundsException.class);
        Check.due("boats still", s.count(6), 12);
        int[][] wrong = {{3, 8}, {-1, 8}, {0, 7}, {0, 14}, {LOWEST, 8}, {HIGHEST, 8}, {0, LOWEST}, {0, HIGHEST}};
        for (int[] w : wrong) {
            Check.dueThrowAndNoChange("a boat out of bounds", PromisesTest::busyOffice, x -> x.boat(0, w[0], w[1]),
                    IllegalArgumentException.class);
        }
        for (int port : new int[] {LOWEST, -1, 3, HIGHEST}) {
            Check.dueThrowAndNoChange("a boat of port " + port, PromisesTest::busyOffice, x -> x.boat(port, 9, 99),
                    IndexOutOfBoundsException.class);
        }
    }

    private static void promise12Trip() {
        StormFlags s = new StormFlags();
        s.port(0, 0, 0, 0);
        s.boat(0, 0, 8);
        s.boat(0, 0, 13);
        Check.due("a trip", s.trip(0, 1, 48), true);
        Check.due("a second trip", s.trip(0, 5, 1), false);
        Check.due("the first one stands", s.look(0, 3), 1);
        Check.dueThrow("a wrong second trip", s, x -> x.trip(0, 0, 1), IllegalArgumentException.class);
        s.hours(1);
        Check.due("a trip while at sea", s.trip(0, 50, 1), false);
        Check.due("it is at sea still", s.look(0, 0), 2);
        Check.due("it comes home then", s.look(0, 3), 49);
        s.gale(0, 2, 2, 8);
        s.hours(1);
        Check.due("it is lost", s.look(0, 0), 3);
        Check.due("a trip of a lost boat", s.trip(0, 50, 1), false);
        Check.due("it was lost then", s.look(0, 3), 2);
        Check.dueThrow("a wrong trip of a lost boat", s, x -> x.trip(0, 2, 1), IllegalArgumentException.class);
        Check.due("the last hour", s.trip(1, 2000, 48), true);
        hoursTo(s, 2000);
        Check.due("it sailed at last", s.look(1, 0), 2);
        Check.due("it will be home", s.look(1, 3), 2048);
        Check.dueThrow("no hour is left", s, x -> x.trip(1, 2001, 1), IllegalArgumentException.class);

        int[][] wrong = {{11, 1}, {10, 1}, {0, 1}, {-1, 1}, {2001, 1}, {12, 0}, {12, -1}, {12, 49},
            {LOWEST, 1}, {HIGHEST, 1}, {12, LOWEST}, {12, HIGHEST}};
        for (int[] w : wrong) {
            Check.dueThrowAndNoChange("trip at " + w[0] + " for " + w[1], PromisesTest::busyOffice,
                    x -> x.trip(0, w[0], w[1]), IllegalArgumentException.class);
        }
        for (int boat : new int[] {LOWEST, -1, 2, HIGHEST}) {
            Check.dueThrowAndNoChange("trip of " + boat, PromisesTest::busyOffice, x -> x.trip(boat, -1, -1),
                    IndexOutOfBoundsException.class);
        }
    }

    private static void promise13Hours() {
        StormFlags s = new StormFlags();
        Check.due("no hours", s.hours(0), 0);
        Check.due("an hour", s.hours(1), 1);
        Check.due("the most", s.hours(200), 201);
        for (int n : new int[] {-1, 201, LOWEST, HIGHEST}) {
            Check.dueThrow("hours " + n, s, x -> x.hours(n), IllegalArgumentException.class);
            Check.dueThrowAndNoChange("hours " + n, PromisesTest::busyOffice, x -> x.hours(n),
                    IllegalArgumentException.class);
        }
        Check.due("now", s.count(0), 201);
        hoursTo(s, 1999);
        Check.due("as far as now may go", s.hours(200), 2000);
        Check.due("no further", s.hours(1), 2000);
        Check.due("no hours at the end", s.hours(0), 2000);
        Check.dueThrow("too many at the end", s, x -> x.hours(201), IllegalArgumentException.class);
    }

    /** Coasts by numbers, rules in order; coasts without ports have no warnings. */
    private static void promise13Office() {
        StormFlags s = new StormFlags();
        s.port(0, 0, 3, 0);
        s.port(5, 5, 1, 0);
        Check.rules(s, "drum coast=3; cone coast=1; cone coast=3; drum wind>0; cone coast=0; cone coast=2");
        s.hours(9);
        Check.due("none at hour 2", s.count(4), 0);
        s.hours(1);
        Check.due("three at hour 10", s.count(4), 3);
        dueWarning(s, 0, 10, 1, 0, 1);
        dueWarning(s, 1, 10, 3, 1, 0);
        dueWarning(s, 2, 10, 3, 0, 2);
        s.hours(7);
        Check.due("none till hour 17", s.count(4), 3);
        s.hours(1);
        Check.due("three more at hour 18", s.count(4), 6);
        dueWarning(s, 3, 18, 1, 0, 1);
        Check.rules(s, "");
        s.hours(8);
        Check.due("no rules, no warnings", s.count(4), 6);
        Check.rules(s, "drum coast=00001 and low<10500; cone fall>0; cone coast=1");
        s.hours(8);
        Check.due("no field, no fall and no low", s.count(4), 7);
        dueWarning(s, 6, 34, 1, 0, 2);
        Check.due("drawn by nothing that is not known", s.count(2), 0);
    }

    private static void dueWarning(StormFlags s, int number, int hour, int coast, int flag, int rule) {
        int[] want = {hour, coast, flag, rule};
        for (int what = 0; what < want.length; what++) {
            Check.due("warning(" + number + ", " + what + ")", s.warning(number, what), want[what]);
        }
    }

    private static void promise13OfficeByWhatIsKnown() {
        // The coast's place is 1, 3 (rounded down from 1.5 and 3.5); the third port is of another coast.
        Check.due("low at the bound", warningsBy("cone low<9692"), 0);
        Check.due("low above the bound", warningsBy("cone low<9693"), 1);
        Check.due("fall at the bound", warningsBy("cone fall>407"), 0);
        Check.due("fall below the bound", warningsBy("cone fall>406"), 1);
        Check.due("wind at the bound", warningsBy("cone wind>7"), 0);
        Check.due("wind below the bound", warningsBy("cone wind>6"), 1);
        Check.due("all conditions", warningsBy("cone low<9693 and fall>406 and wind>6 and coast=0"), 1);
        Check.due("one of them fails, the first", warningsBy("cone low<9692 and fall>406 and wind>6 and coast=0"), 0);
        Check.due("one of them fails, the last", warningsBy("cone low<9693 and fall>406 and wind>6 and coast=1"), 0);
        Check.due("one condition twice", warningsBy("cone wind>6 and wind>7"), 0);
        Check.due("two rules", warningsBy("cone wind>6; drum wind>6; drum wind>7"), 2);
        Check.due("a coast that is none", warningsBy("cone coast=4"), 0);
        Check.due("a coast far away", warningsBy("cone coast=99999"), 0);
    }

    /** The warnings of coast 0 at hour 10; the field is 9692 and was 10099. */
    private static int warningsBy(String text) {
        StormFlags s = new StormFlags();
        s.port(0, 3, 0, 0);
        s.port(3, 4, 0, 2);
        s.port(1, 8, 2, 0);
        s.report(0, 0, 10000, 12);
        s.report(1, 0, 10400, 12);
        s.hours(8);
        s.report(0, 1, 9000, 1);
        s.report(0, 1, 9600, 5);
        s.report(1, 1, 9900, 7);
        s.report(2, 1, 10000, 12);
        // Weights at 1, 3: 500, 166 and 38.
        Check.due("the field ahead", s.field(1, 3, 0, 10), (10000 * 500 + 10400 * 166) / 666);
        s.hours(1);
        s.report(1, 1, 9000, 12);
        Check.rules(s, text);
        s.hours(1);
        Check.due("the field", s.field(1, 3, 1, 10), (9600 * 500 + 9900 * 166 + 10000 * 38) / 704);
        int found = 0;
        for (int i = 0; i < s.count(4); i++) {
            found += s.warning(i, 1) == 0 ? 1 : 0;
        }
        return found;
    }

    private static void promise13OfficeLimit() {
        StormFlags s = new StormFlags();
        for (int coast = 0; coast < 4; coast++) {
            s.port(coast, 0, coast, coast);
        }
        Check.rules(s, "drum coast=0;drum coast=1;drum coast=2;cone coast=0;cone coast=1;cone coast=2;drum coast=3");
        hoursTo(s, 8 * 28 + 2);
        Check.due("28 times 7", s.count(4), 196);
        s.hours(8);
        Check.due("at most 200", s.count(4), 200);
        dueWarning(s, 199, 8 * 29 + 2, 1, 0, 4);
        s.hours(8);
        Check.due("at most 200 still", s.count(4), 200);
        Check.dueThrow("a 201st", s, x -> x.warning(200, 0), IndexOutOfBoundsException.class);

        StormFlags last = new StormFlags();
        last.port(0, 0, 0, 12);
        hoursTo(last, 1993);
        Check.rules(last, "cone coast=0");
        hoursTo(last, 2000);
        Check.due("the last office", last.count(4), 1);
        dueWarning(last, 0, 1994, 0, 0, 0);
        Check.due("it flies behind the last hour", last.flies(0, 2029), 1);
        Check.due("and no longer", last.flies(0, 2030), 0);
        Check.due("it has not come", last.score(0, 3), 0);
    }

    private static void promise13Boats() {
        for (int bold = 0; bold <= 2; bold++) {
            Check.due("no flag, bold " + bold, stays("cone coast=9", bold), 0);
            Check.due("a cone, bold " + bold, stays("cone coast=1", bold), bold == 0 ? 1 : 0);
            Check.due("a drum, bold " + bold, stays("drum coast=1", bold), bold <= 1 ? 1 : 0);
            Check.due("both, bold " + bold, stays("cone coast=1; drum coast=1", bold), bold <= 1 ? 1 : 0);
            Check.due("another coast's, bold " + bold, stays("drum coast=2", bold), 0);
        }
        for (int strength = 8; strength <= 13; strength++) {
            for (int force = 8; force <= 12; force++) {
                StormFlags s = new StormFlags();
                s.port(0, 0, 0, 0);
                s.port(0, 0, 0, 0);
                s.boat(0, 0, strength);
                s.boat(1, 0, strength);
                s.gale(0, 3, 4, force);
                s.trip(0, 2, 5);
                s.trip(1, 2, 5);
                s.hours(3);
                Check.due("force " + force + " on " + strength, s.look(0, 0), force >= strength ? 3 : 2);
                Check.due("a gale elsewhere", s.look(1, 0), 2);
            }
        }
        Check.due("a gale that ended ahead", stateAfterGale(3, 4, 5, 2), 0);
        Check.due("a gale in the first hour", stateAfterGale(3, 5, 5, 2), 3);
        Check.due("a gale in the last hour", stateAfterGale(6, 9, 5, 2), 3);
        Check.due("a gale as it is home again", stateAfterGale(7, 9, 5, 2), 0);

        StormFlags home = new StormFlags();
        home.port(0, 0, 0, 0);
        home.boat(0, 0, 8);
        home.gale(0, 1, 20, 12);
        home.hours(5);
        Check.due("a gale does nothing to a boat at home", home.look(0, 0), 0);
        home.trip(0, 30, 1);
        home.hours(5);
        Check.due("nor to one that is to sail", home.look(0, 0), 1);
    }

    /** How often a boat of coast 1 stays that is to sail in the very hour of the office. */
    private static int stays(String text, int bold) {
        StormFlags s = new StormFlags();
        s.port(0, 0, 2, 0);
        s.port(0, 0, 1, 0);
        s.boat(1, bold, 13);
        Check.rules(s, text);
        s.trip(0, 10, 2);
        s.hours(10);
        int stayed = s.look(0, 2);
        Check.due("it sailed or stayed", s.look(0, 1), 1 - stayed);
        Check.due("where it is", s.look(0, 0), stayed == 1 ? 0 : 2);
        Check.due("its hour", s.look(0, 3), stayed == 1 ? NONE : 12);
        Check.due("it may be sent again", s.trip(0, 11, 1), stayed == 1);
        return stayed;
    }

    private static int stateAfterGale(int from, int to, int sailHour, int hours) {
        StormFlags s = new StormFlags();
        s.port(0, 0, 0, 0);
        s.boat(0, 0, 8);
        s.gale(0, from, to, 8);
        s.trip(0, sailHour, hours);
        s.hours(20);
        return s.look(0, 0);
    }

    private static void promise14Flies() {
        StormFlags s = new StormFlags();
        s.port(0, 0, 0, 0);
        s.port(1, 0, 0, 12);
        s.port(2, 0, 1, 0);
        Check.rules(s, "cone coast=0");
        s.hours(9);
        Check.due("nothing is sent yet", s.flies(0, 10), 0);
        s.hours(1);
        s.port(3, 0, 0, 0);
        for (int hour = 0; hour < 60; hour++) {
            Check.due("cone at 0, " + hour, s.flies(0, hour), hour >= 10 && hour <= 33 ? 1 : 0);
            Check.due("cone at 1, " + hour, s.flies(1, hour), hour >= 22 && hour <= 45 ? 1 : 0);
        }
        Check.due("not at another coast", s.flies(2, 10), 0);
        Check.due("not at a port that came later", s.flies(3, 10), 0);
        Check.rules(s, "drum coast=0");
        s.hours(8);
        Check.due("the later port has the next", s.flies(3, 18), 2);
        Check.due("ahead of the drum", s.flies(0, 17), 1);
        Check.due("both", s.flies(0, 18), 3);
        Check.due("both at last", s.flies(0, 33), 3);
        Check.due("the drum alone", s.flies(0, 34), 2);
        Check.due("the drum's last hour", s.flies(0, 41), 2);
        Check.due("nothing", s.flies(0, 42), 0);
        Check.rules(s, "drum coast=0; drum coast=0; cone coast=0; cone coast=0");
        s.hours(8);
        Check.due("two of each are both", s.flies(0, 26), 3);
        Check.due("an hour far ahead", s.flies(0, LOWEST), 0);
        Check.due("an hour far behind", s.flies(0, HIGHEST), 0);
        for (int port : new int[] {LOWEST, -1, 3, HIGHEST}) {
            Check.dueThrowAndNoChange("port " + port, PromisesTest::busyOffice, x -> x.flies(port, 0),
                    IndexOutOfBoundsException.class);
        }
    }

    private static void promise15Warning() {
        StormFlags s = new StormFlags();
        Check.dueThrow("no warning yet", s, x -> x.warning(0, 0), IndexOutOfBoundsException.class);
        s.port(0, 0, 2, 7);
        Check.rules(s, "cone coast=0; drum coast=2");
        s.hours(10);
        dueWarning(s, 0, 10, 2, 1, 1);
        Check.rules(s, "cone coast=2");
        dueWarning(s, 0, 10, 2, 1, 1);
        s.hours(8);
        dueWarning(s, 1, 18, 2, 0, 0);
        for (int warning : new int[] {LOWEST, -1, 9, HIGHEST}) {
            Check.dueThrowAndNoChange("warning " + warning, PromisesTest::busyOffice, x -> x.warning(warning, 9),
                    IndexOutOfBoundsException.class);
        }
        for (int what : new int[] {LOWEST, -1, 4, HIGHEST}) {
            Check.dueThrowAndNoChange("what " + what, PromisesTest::busyOffice, x -> x.warning(0, what),
                    java.util.NoSuchElementException.class);
        }
        Check.dueThrow("the one behind the last", s, x -> x.warning(2, 0), IndexOutOfBoundsException.class);
    }

    private static void promise16Look() {
        StormFlags s = new StormFlags();
        s.port(0, 0, 0, 0);
        s.boat(0, 0, 9);
        dueLook(s, 0, 0, 0, NONE);
        s.trip(0, 4, 3);
        dueLook(s, 1, 0, 0, 4);
        s.hours(3);
        dueLook(s, 1, 0, 0, 4);
        s.hours(1);
        dueLook(s, 2, 1, 0, 7);
        s.hours(2);
        dueLook(s, 2, 1, 0, 7);
        s.hours(1);
        dueLook(s, 0, 1, 0, NONE);
        Check.rules(s, "cone coast=0");
        s.trip(0, 11, 3);
        s.hours(4);
        dueLook(s, 0, 1, 1, NONE);
        s.trip(0, 33, 1);
        Check.rules(s, "");
        s.hours(22);
        dueLook(s, 0, 1, 2, NONE);
        s.trip(0, 34, 1);
        s.hours(1);
        dueLook(s, 2, 2, 2, 35);
        s.hours(1);
        dueLook(s, 0, 2, 2, NONE);
        s.gale(0, 40, 41, 9);
        s.trip(0, 40, 5);
        s.hours(5);
        dueLook(s, 3, 3, 2, 40);
        s.hours(30);
        dueLook(s, 3, 3, 2, 40);
        for (int boat : new int[] {LOWEST, -1, 2, HIGHEST}) {
            Check.dueThrowAndNoChange("boat " + boat, PromisesTest::busyOffice, x -> x.look(boat, 9),
                    IndexOutOfBoundsException.class);
        }
        for (int what : new int[] {LOWEST, -1, 4, HIGHEST}) {
            Check.dueThrowAndNoChange("what " + what, PromisesTest::busyOffice, x -> x.look(0, what),
                    java.util.NoSuchElementException.class);
        }
    }

    private static void dueLook(StormFlags s, int state, int sailed, int stayed, int hour) {
        int[] want = {state, sailed, stayed, hour};
        for (int what = 0; what < want.length; what++) {
            Check.due("look(0, " + what + ") at " + s.count(0), s.look(0, what), want[what]);
        }
    }

    private static void promise17Score() {
        StormFlags s = new StormFlags();
        s.port(0, 0, 0, 0);
        s.port(0, 0, 0, 5);
        s.port(0, 0, 1, 0);
        Check.rules(s, "cone coast=0");
        s.gale(0, 10, 10, 8);
        s.gale(1, 14, 14, 8);
        s.gale(1, 38, 39, 8);
        s.gale(1, 39, 39, 8);
        s.gale(2, 20, 30, 8);
        s.hours(9);
        dueScore(s, 0, 0, 0, 0, 0);
        s.hours(1);
        Check.rules(s, "");
        dueScore(s, 0, 1, 0, 0, 1);
        dueScore(s, 1, 0, 0, 0, 0);
        s.port(0, 0, 0, 0);
        s.hours(4);
        dueScore(s, 1, 0, 1, 0, 0);
        s.hours(1);
        dueScore(s, 1, 0, 1, 0, 1);
        s.hours(25);
        dueScore(s, 0, 1, 0, 0, 1);
        dueScore(s, 1, 1, 2, 0, 1);
        dueScore(s, 2, 0, 1, 0, 0);
        dueScore(s, 3, 0, 0, 0, 0);

        Check.due("a gale that ended ahead of it", vainWith(1, 9), 1);
        Check.due("a gale that ended in its first hour", vainWith(1, 10), 0);
        Check.due("a gale in the midst of it", vainWith(20, 21), 0);
        Check.due("a gale all round it", vainWith(5, 60), 0);
        Check.due("a gale that began in its last hour", vainWith(33, 40), 0);
        Check.due("a gale that began behind it", vainWith(34, 40), 1);
        for (int port : new int[] {LOWEST, -1, 3, HIGHEST}) {
            Check.dueThrowAndNoChange("port " + port, PromisesTest::busyOffice, x -> x.score(port, 9),
                    IndexOutOfBoundsException.class);
        }
        for (int what : new int[] {LOWEST, -1, 4, HIGHEST}) {
            Check.dueThrowAndNoChange("what " + what, PromisesTest::busyOffice, x -> x.score(0, what),
                    java.util.NoSuchElementException.class);
        }
    }

    /** In vain at hour 34, of one warning that flies from 10 to 33; at hour 33 it flies still. */
    private static int vainWith(int from, int to) {
        StormFlags s = new StormFlags();
        s.port(0, 0, 0, 0);
        s.port(0, 0, 0, 0);
        Check.rules(s, "drum coast=0");
        s.gale(0, from, to, 8);
        s.hours(10);
        Check.rules(s, "");
        s.hours(23);
        Check.due("it flies still", s.score(0, 2), 0);
        s.hours(1);
        Check.due("a gale elsewhere does not count", s.score(1, 2), 1);
        return s.score(0, 2);
    }

    private static void dueScore(StormFlags s, int port, int warned, int missed, int vain, int came) {
        int[] want = {warned, missed, vain, came};
        for (int what = 0; what < want.length; what++) {
            Check.due("score(" + port + ", " + what + ") at " + s.count(0), s.score(port, what), want[what]);
        }
    }

    private static void promise18Count() {
        StormFlags s = new StormFlags();
        busyOffice(s);
        int[] want = {11, 3, 3, 2, 3, 2, 2, 0, 0};
        for (int what = 0; what < want.length; what++) {
            Check.due("count(" + what + ")", s.count(what), want[what]);
        }
        s.hours(1);
        Check.due("at sea", s.count(8), 1);
        Check.due("lost", s.count(7), 0);
        s.boat(0, 2, 9);
        s.trip(2, 13, 20);
        s.hours(1);
        Check.due("two at sea", s.count(8), 2);
        s.hours(7);
        Check.due("one at sea still", s.count(8), 1);
        Check.due("one lost", s.count(7), 1);
        s.trip(0, 21, 3);
        s.hours(1);
        Check.due("one stayed", s.count(8), 1);
        StormFlags first = new StormFlags();
        first.port(0, 0, 0, 0);
        first.boat(0, 0, 8);
        first.gale(0, 2, 2, 8);
        first.trip(0, 1, 5);
        first.hours(1);
        Check.due("the first boat is at sea", first.count(8), 1);
        first.hours(1);
        Check.due("the first boat is at sea no more", first.count(8), 0);
        Check.due("the first boat is lost", first.count(7), 1);
        for (int what : new int[] {LOWEST, -1, 9, HIGHEST}) {
            Check.due("count(" + what + ")", s.count(what), NONE);
        }
    }
}
