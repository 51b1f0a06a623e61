import java.util.NoSuchElementException;

/** Which of several exceptions is thrown, and what answers change nothing. */
public final class ExceptionsTest {
    public static void main(String[] args) {
        Check.all(ExceptionsTest.class);
    }

    /** A busy office with as many ports, boats and gales as there may be. */
    private static void full(StormFlags s) {
        Offices.busy(s);
        for (int i = s.count(1); i < 12; i++) {
            s.port(i, i, 3, 0);
        }
        for (int i = s.count(6); i < 12; i++) {
            s.boat(0, 0, 8);
        }
        for (int i = s.count(5); i < 30; i++) {
            s.gale(0, 100, 100, 8);
        }
    }

    private static void fullOfReports(StormFlags s) {
        s.port(3, 4, 0, 0);
        for (int i = 0; i < 300; i++) {
            s.report(0, 0, 9000 + i, 0);
        }
    }

    /** "Of several exceptions the one told first is thrown": port: IllegalArgument, then UnsupportedOperation. */
    private static void portThrowsTheFirst() {
        int[][] wrong = {{16, 0, 0, 0}, {0, 16, 0, 0}, {0, 0, 4, 0}, {0, 0, 0, 13}, {-1, -1, -1, -1}};
        for (int[] w : wrong) {
            Check.dueThrowAndNoChange("a wrong 13th port", ExceptionsTest::full, s -> s.port(w[0], w[1], w[2], w[3]),
                    IllegalArgumentException.class);
        }
        Check.dueThrowAndNoChange("a right 13th port", ExceptionsTest::full, s -> s.port(0, 0, 0, 0),
                UnsupportedOperationException.class);
    }

    /** "Of several exceptions the one told first is thrown": report: IndexOutOfBounds, IllegalArgument, Unsupported. */
    private static void reportThrowsTheFirst() {
        int[][] wrong = {{-1, 9500, 0}, {1, 9500, 0}, {0, 8999, 0}, {0, 10501, 0}, {0, 9500, -1}, {0, 9500, 13}};
        for (int[] w : wrong) {
            Check.dueThrowAndNoChange("a wrong report of no port", ExceptionsTest::fullOfReports,
                    s -> s.report(1, w[0], w[1], w[2]), IndexOutOfBoundsException.class);
            Check.dueThrowAndNoChange("a wrong 301st report", ExceptionsTest::fullOfReports,
                    s -> s.report(0, w[0], w[1], w[2]), IllegalArgumentException.class);
        }
        Check.dueThrowAndNoChange("a 301st report of no port", ExceptionsTest::fullOfReports,
                s -> s.report(1, 0, 9500, 0), IndexOutOfBoundsException.class);
        Check.dueThrowAndNoChange("a right 301st report", ExceptionsTest::fullOfReports,
                s -> s.report(0, 0, 9500, 0), UnsupportedOperationException.class);
    }

    /** "Of several exceptions the one told first is thrown": gale: IndexOutOfBounds, IllegalArgument, Unsupported. */
    private static void galeThrowsTheFirst() {
        int[][] wrong = {{11, 12, 8}, {13, 12, 8}, {12, 2001, 8}, {12, 12, 7}, {12, 12, 13}};
        for (int[] w : wrong) {
            Check.dueThrowAndNoChange("a wrong gale at no port", ExceptionsTest::full,
                    s -> s.gale(12, w[0], w[1], w[2]), IndexOutOfBoundsException.class);
            Check.dueThrowAndNoChange("a wrong 31st gale", ExceptionsTest::full,
                    s -> s.gale(0, w[0], w[1], w[2]), IllegalArgumentException.class);
        }
        Check.dueThrowAndNoChange("a 31st gale at no port", ExceptionsTest::full,
                s -> s.gale(-1, 12, 12, 8), IndexOutOfBoundsException.class);
        Check.dueThrowAndNoChange("a right 31st gale", ExceptionsTest::full,
                s -> s.gale(0, 12, 12, 8), UnsupportedOperationException.class);
    }

    /** "Of several exceptions the one told first is thrown": boat: IndexOutOfBounds, IllegalArgument, Unsupported. */
    private static void boatThrowsTheFirst() {
        int[][] wrong = {{-1, 8}, {3, 8}, {0, 7}, {0, 14}};
        for (int[] w : wrong) {
            Check.dueThrowAndNoChange("a wrong boat of no port", ExceptionsTest::full,
                    s -> s.boat(12, w[0], w[1]), IndexOutOfBoundsException.class);
            Check.dueThrowAndNoChange("a wrong 13th boat", ExceptionsTest::full,
                    s -> s.boat(0, w[0], w[1]), IllegalArgumentException.class);
        }
        Check.dueThrowAndNoChange("a 13th boat of no port", ExceptionsTest::full,
                s -> s.boat(-1, 0, 8), IndexOutOfBoundsException.class);
        Check.dueThrowAndNoChange("a right 13th boat", ExceptionsTest::full,
                s -> s.boat(0, 0, 8), UnsupportedOperationException.class);
    }

    /** "Of several exceptions the one told first is thrown": trip: IndexOutOfBounds, then IllegalArgument. */
    private static void tripThrowsTheFirst() {
        int[][] wrong = {{11, 1}, {2001, 1}, {12, 0}, {12, 49}};
        for (int[] w : wrong) {
            Check.dueThrowAndNoChange("a wrong trip of no boat", Offices::busy,
                    s -> s.trip(2, w[0], w[1]), IndexOutOfBoundsException.class);
        }
    }

    /**
     * Promise 12: "IllegalArgumentException: the hour is not behind NOW (2000 at most), or hours are none.": also where
     * a right TRIP would be answered false.
     */
    private static void aWrongTripOfABoatThatHasOneThrows() {
        int[][] wrong = {{11, 1}, {2001, 1}, {12, 0}, {12, 49}};
        for (int[] w : wrong) {
            Check.dueThrowAndNoChange("a wrong trip of a boat that is to sail", Offices::busy,
                    s -> s.trip(0, w[0], w[1]), IllegalArgumentException.class);
        }
        StormFlags s = Offices.withBoat(0, 8);
        s.trip(0, 1, 5);
        s.gale(0, 2, 2, 8);
        s.hours(1);
        Check.dueThrow("a wrong trip of a boat at sea", s, x -> x.trip(0, 1, 1), IllegalArgumentException.class);
        Check.dueThrow("a trip too long of a boat at sea", s, x -> x.trip(0, 2, 49), IllegalArgumentException.class);
        s.hours(1);
        Check.dueThrow("a wrong trip of a lost boat", s, x -> x.trip(0, 2, 1), IllegalArgumentException.class);
        Check.dueThrow("a trip too long of a lost boat", s, x -> x.trip(0, 3, 49), IllegalArgumentException.class);
    }

    /** "Of several exceptions the one told first is thrown": warning, look, score: IndexOutOfBounds, NoSuchElement. */
    private static void askingThrowsTheFirst() {
        for (int number : new int[] {Check.LOWEST, -1, 12, Check.HIGHEST}) {
            for (int what : new int[] {-1, 0, 4}) {
                Check.dueThrowAndNoChange("warning(" + number + ", " + what + ")", Offices::busy,
                        s -> s.warning(number, what), IndexOutOfBoundsException.class);
                Check.dueThrowAndNoChange("look(" + number + ", " + what + ")", Offices::busy,
                        s -> s.look(number, what), IndexOutOfBoundsException.class);
                Check.dueThrowAndNoChange("score(" + number + ", " + what + ")", Offices::busy,
                        s -> s.score(number, what), IndexOutOfBoundsException.class);
            }
        }
        StormFlags s = new StormFlags();
        Check.dueThrow("warning(0, 4) of none", s, x -> x.warning(0, 4), IndexOutOfBoundsException.class);
        Check.dueThrow("look(0, 4) of none", s, x -> x.look(0, 4), IndexOutOfBoundsException.class);
        Check.dueThrow("score(0, 4) of none", s, x -> x.score(0, 4), IndexOutOfBoundsException.class);
        Check.dueThrowAndNoChange("warning(3, 4)", Offices::busy, x -> x.warning(3, 4), NoSuchElementException.class);
        Check.dueThrowAndNoChange("look(1, 4)", Offices::busy, x -> x.look(1, 4), NoSuchElementException.class);
        Check.dueThrowAndNoChange("score(2, 4)", Offices::busy, x -> x.score(2, 4), NoSuchElementException.class);
    }

    /** "a call that throws changes nothing but the TAPE, where it is used up": rules() alone uses it up. */
    private static void onlyRulesUsesTheTapeUp() {
        StormFlags s = new StormFlags();
        Check.type(s, "flag");
        Check.thrownBy(s, x -> x.port(-1, 0, 0, 0));
        Check.thrownBy(s, x -> x.hours(-1));
        Check.thrownBy(s, x -> x.report(0, 0, 9500, 0));
        Check.thrownBy(s, x -> x.field(-1, 0, 0, 0));
        Check.due("the tape stands", s.end(4), true);
        Check.dueThrow("rules()", s, StormFlags::rules, IllegalArgumentException.class);
        Check.due("the tape is used up", s.end(1), false);
    }

    /** Not promised: "Nothing is promised beyond the answers and state changes": calls that only ask change nothing. */
    private static void askingChangesNothing() {
        Check.dueNoChange("asking", Offices::busy, s -> {
            s.counts(0, 1, 11);
            s.field(4, 4, 1, 11);
            s.flies(0, 11);
            s.fault();
            Check.seen(s);
        });
    }
}
