/** Promise 7, and the FIELD of the terms. */
public final class FieldTest {
    public static void main(String[] args) {
        Check.all(FieldTest.class);
    }

    /** Terms: "FIELD of a place (x and y, 0 to 15)"; promise 7: "IllegalArgumentException: the place is none." */
    private static void xIs0To15() {
        Check.dueRange("x", Offices::busy, 0, 15, (s, x) -> s.field(x, 0, 0, 0), 10100);
    }

    /** Terms: "FIELD of a place (x and y, 0 to 15)"; promise 7: "IllegalArgumentException: the place is none." */
    private static void yIs0To15() {
        Check.dueRange("y", Offices::busy, 0, 15, (s, y) -> s.field(0, y, 0, 0), 10100);
    }

    /** Promise 7: "IllegalArgumentException: the place is none.": also where the FIELD would be none. */
    private static void thePlaceIsTestedFirst() {
        Check.dueRange("x of nothing", s -> s.hours(1), 0, 15, (s, x) -> s.field(x, 0, -1, -1), Check.NONE);
        Check.dueRange("y of nothing", s -> s.hours(1), 0, 15, (s, y) -> s.field(0, y, 251, 2001), Check.NONE);
    }

    /** Terms: "none without such"; promise 7: "FIELD; NONE.": no PORTS, no REPORTS, none of the WATCH, none KNOWN. */
    private static void fieldIsNoneWithoutAReport() {
        StormFlags s = new StormFlags();
        Check.due("no ports", s.field(0, 0, 0, 2000), Check.NONE);
        s.port(0, 0, 0, 3);
        Check.due("no reports", s.field(0, 0, 0, 2000), Check.NONE);
        s.hours(5);
        s.report(0, 0, 9500, 0);
        Check.due("the hour ahead", s.field(0, 0, 0, 7), Check.NONE);
        Check.due("the hour", s.field(0, 0, 0, 8), 9500);
        Check.due("the hour behind", s.field(0, 0, 0, 9), 9500);
        Check.due("the highest hour", s.field(0, 0, 0, Check.HIGHEST), 9500);
        Check.due("hour -1", s.field(0, 0, 0, -1), Check.NONE);
        Check.due("the lowest hour", s.field(0, 0, 0, Check.LOWEST), Check.NONE);
        for (int watch : new int[] {Check.LOWEST, -1, 1, 250, 251, Check.HIGHEST}) {
            Check.due("watch " + watch, s.field(0, 0, watch, 2000), Check.NONE);
        }
    }

    /** Terms: "of all PORTS of which a REPORT counts": of every COAST, and of those alone. */
    private static void portsOfEveryCoastCount() {
        StormFlags s = new StormFlags();
        for (int coast = 0; coast < 4; coast++) {
            s.port(7, 7, coast, 0);
            Check.due("the next one has no report", s.field(7, 7, 0, 0), coast == 0 ? Check.NONE : 9000 + 100 * coast);
            s.report(coast, 0, 9100 + 200 * coast, 0);
            Check.due("it has one", s.field(7, 7, 0, 0), 9100 + 100 * coast);
        }
    }

    /** Terms: "of which a REPORT counts": of several of one PORT one alone. */
    private static void aPortCountsOnce() {
        StormFlags s = new StormFlags();
        s.port(7, 7, 0, 0);
        s.port(7, 7, 0, 0);
        s.report(0, 0, 9100, 0);
        s.report(1, 0, 10000, 0);
        s.report(0, 0, 9000, 0);
        Check.due("9000 and 10000", s.field(7, 7, 0, 0), 9500);
    }

    /**
     * Terms: "each with the weight 1000 by 1 and the sum of the squares of both distances, rounded down": at
     * every place, from the PORT's own (1000) to the one farthest away (1000 by 451: 2).
     */
    private static void everyPlaceHasItsWeights() {
        StormFlags s = new StormFlags();
        s.port(0, 0, 0, 0);
        s.port(15, 15, 1, 0);
        s.report(0, 0, 9000, 0);
        s.report(1, 0, 10500, 0);
        for (int x = 0; x <= 15; x++) {
            for (int y = 0; y <= 15; y++) {
                int near = 1000 / (1 + x * x + y * y);
                int far = 1000 / (1 + (15 - x) * (15 - x) + (15 - y) * (15 - y));
                Check.due("field at " + x + ", " + y, s.field(x, y, 0, 0), (9000 * near + 10500 * far) / (near + far));
            }
        }
    }

    /** Terms: "1000 by 1 and the sum of the squares ..., rounded down": numbers reckoned by hand. */
    private static void someWeightsByHand() {
        Check.due("distance 0: 1000 and 1000", fieldAt00(0, 0, 10000), 9500);
        Check.due("distance 1, 0: 500 and 1000", fieldAt00(1, 0, 10000), 9333);
        Check.due("distance 0, 1: 500 and 1000", fieldAt00(0, 1, 10000), 9333);
        Check.due("distance 1, 1: 333 and 1000", fieldAt00(1, 1, 10000), 9249);
        Check.due("distance 15, 0: 4 and 1000", fieldAt00(15, 0, 10000), 9003);
        Check.due("distance 15, 14: 2 and 1000", fieldAt00(15, 14, 10000), 9001);
        Check.due("distance 15, 15: 2 and 1000", fieldAt00(15, 15, 10000), 9001);
    }

    /** The field at 0, 0 of a port there with 9000 and one elsewhere. */
    private static int fieldAt00(int x, int y, int glass) {
        StormFlags s = Offices.withPort(0);
        s.port(x, y, 0, 0);
        s.report(0, 0, 9000, 0);
        s.report(1, 0, glass, 0);
        return s.field(0, 0, 0, 0);
    }

    /** Terms: "(at least 1)": the least weight, at 15, 15 of 0, 0, is 2; alone it still gives its GLASS. */
    private static void theFarthestPortAlone() {
        StormFlags s = Offices.withPort(0);
        s.report(0, 0, 10499, 0);
        Check.due("farthest away", s.field(15, 15, 0, 0), 10499);
        Check.due("at its place", s.field(0, 0, 0, 0), 10499);
    }

    /** Terms: "the sum of GLASS times weight by the sum of weights, rounded down": just below, at, just above. */
    private static void theFieldIsRoundedDown() {
        Check.due("27002 by 3", fieldOf(9000, 9001, 9001), 9000);
        Check.due("27003 by 3", fieldOf(9001, 9001, 9001), 9001);
        Check.due("27004 by 3", fieldOf(9001, 9001, 9002), 9001);
        Check.due("18001 by 2", fieldOf(9000, 9001), 9000);
        // At 0, 0 the weights are 1000 and 333.
        Check.due("one less than 9001 by 1333", fieldAt00(1, 1, 9004), 9000);
        Check.due("9333 by 1333", fieldAt00(1, 1, 10333), 9333);
        Check.due("333 less than 9333 by 1333", fieldAt00(1, 1, 10332), 9332);
    }

    private static int fieldOf(int... glasses) {
        StormFlags s = new StormFlags();
        for (int i = 0; i < glasses.length; i++) {
            s.port(7, 7, 0, 0);
            s.report(i, 0, glasses[i], 0);
        }
        return s.field(7, 7, 0, 0);
    }

    /** Terms: "PORTS (at most 12 ..)", "GLASS (9000 to 10500)": the greatest and the least sum. */
    private static void twelvePortsOfTheHighestAndTheLowestGlass() {
        int[] highest = new int[12];
        int[] lowest = new int[12];
        java.util.Arrays.fill(highest, 10500);
        java.util.Arrays.fill(lowest, 9000);
        Check.due("the highest", fieldOf(highest), 10500);
        Check.due("the lowest", fieldOf(lowest), 9000);
    }

    /** Terms: "The place of a COAST: the sum of x of its PORTS by how many it has, rounded down". */
    private static void xOfACoastIsRoundedDown() {
        duePlace(0, 0, new int[][] {{0, 0}, {1, 0}});
        duePlace(1, 0, new int[][] {{0, 0}, {2, 0}});
        duePlace(1, 0, new int[][] {{0, 0}, {3, 0}});
        duePlace(14, 15, new int[][] {{14, 15}, {15, 15}, {15, 15}});
        duePlace(15, 15, new int[][] {{15, 15}, {15, 15}, {15, 15}});
    }

    /** Terms: "The place of a COAST: .., y likewise." */
    private static void yOfACoastIsRoundedDown() {
        duePlace(0, 0, new int[][] {{0, 0}, {0, 1}});
        duePlace(0, 1, new int[][] {{0, 0}, {0, 2}});
        duePlace(0, 1, new int[][] {{0, 0}, {0, 3}});
        duePlace(15, 14, new int[][] {{15, 14}, {15, 15}, {15, 15}});
        duePlace(2, 9, new int[][] {{0, 15}, {5, 4}});
    }

    /** Terms: "the sum of x of its PORTS by how many it has": one PORT, and twelve of them. */
    private static void theCoastOfOnePortAndOfTwelve() {
        duePlace(6, 9, new int[][] {{6, 9}});
        int[][] twelve = new int[12][];
        for (int i = 0; i < 12; i++) {
            twelve[i] = new int[] {i + 2, 15 - i};
        }
        duePlace(7, 9, twelve);
    }

    /** Terms: "the sum of x of its PORTS by how many it has, rounded down, y likewise": from 1 to 12 of them. */
    private static void theCoastOfAnyManyPorts() {
        for (int many = 1; many <= 12; many++) {
            int[][] ports = new int[many][];
            int sumX = 0;
            int sumY = 0;
            for (int i = 0; i < many; i++) {
                ports[i] = new int[] {(3 + 5 * i) % 16, (11 + 7 * i) % 16};
                sumX += ports[i][0];
                sumY += ports[i][1];
            }
            duePlace(sumX / many, sumY / many, ports);
        }
    }

    /** Terms: "The place of a COAST: the sum of x of its PORTS": a new PORT moves it, for the WATCHES past too. */
    private static void aNewPortMovesTheCoast() {
        StormFlags s = new StormFlags();
        s.port(0, 0, 0, 0);
        s.port(15, 0, 1, 0);
        s.report(0, 0, 10000, 0);
        s.report(1, 0, 9000, 0);
        s.hours(8);
        s.report(0, 1, 9000, 0);
        s.report(1, 1, 9000, 0);
        s.port(14, 0, 0, 0);
        // Now at 7, 0: the weights are 1000 by 50 and 1000 by 65, at 0, 0 they would be 1000 and 4.
        int before = (10000 * 20 + 9000 * 15) / 35;
        Check.due("the field", s.field(7, 0, 0, 8), before);
        Offices.warn(s, "cone coast=0 and fall>" + (before - 9000) + "; drum coast=0 and fall>" + (before - 9001));
        Check.due("warnings", s.count(4), 1);
        Check.dueWarning(s, 0, 10, 0, 1, 1);
    }

    /** The place of coast 0 must be x, y: by its FIELD there, which is another one at every place beside it. */
    private static void duePlace(int x, int y, int[][] ports) {
        StormFlags s = new StormFlags();
        for (int[] place : ports) {
            s.port(place[0], place[1], 0, 0);
        }
        s.hours(8);
        for (int i = 0; i < ports.length; i++) {
            s.report(i, 1, 9000 + (311 * i + 97 * ports[i][0] + 41 * ports[i][1]) % 1500, 0);
        }
        if (ports.length < 12) {
            s.report(s.port(8, 3, 1, 0), 1, 10500, 0);
        }
        int glass = s.field(x, y, 1, 10);
        int[][] beside = {{x - 1, y}, {x + 1, y}, {x, y - 1}, {x, y + 1}};
        for (int[] place : beside) {
            if (0 <= place[0] && place[0] <= 15 && 0 <= place[1] && place[1] <= 15) {
                Check.due("another field beside it", s.field(place[0], place[1], 1, 10) != glass, true);
            }
        }
        Check.rules(s, "cone coast=0 and low<" + glass + "; drum coast=0 and low<" + (glass + 1));
        s.hours(2);
        Check.due("warnings of the coast at " + x + ", " + y, s.count(4), 1);
        Check.dueWarning(s, 0, 10, 0, 1, 1);
    }

    /** Terms: "The place of a COAST: the sum of x of its PORTS": those without a REPORT too, no other COAST's. */
    private static void everyPortOfTheCoastMakesItsPlace() {
        StormFlags s = new StormFlags();
        s.port(0, 0, 2, 0);
        s.port(8, 6, 2, 0);
        s.port(15, 15, 1, 0);
        s.hours(8);
        s.report(0, 1, 9000, 0);
        s.report(2, 1, 10500, 0);
        // At 4, 3: 1000 by 26 is 38, 1000 by 1 + 121 + 144 is 3.
        int glass = (9000 * 38 + 10500 * 3) / 41;
        Check.due("the field", s.field(4, 3, 1, 10), glass);
        Check.rules(s, "cone coast=2 and low<" + glass + "; drum coast=2 and low<" + (glass + 1));
        s.hours(2);
        Check.due("warnings", s.count(4), 1);
        Check.dueWarning(s, 0, 10, 2, 1, 1);
    }
}
