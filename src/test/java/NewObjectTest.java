import java.util.ArrayList;
import java.util.List;

/** Promise 1, and how long an object may be used. */
public final class NewObjectTest {
    public static void main(String[] args) {
        Check.all(NewObjectTest.class);
    }

    /** Promise 1: "No PORTS, no RULES; NOW is 0." */
    private static void aNewObjectHasNothing() {
        StormFlags s = new StormFlags();
        for (int what = 0; what <= 8; what++) {
            Check.due("count(" + what + ")", s.count(what), 0);
        }
        Check.due("its field", s.field(0, 0, 0, 2000), Check.NONE);
        Check.due("its fault", s.fault(), Check.NONE);
        Check.due("a byte of its tape", s.end(1), false);
        Check.due("its tape", s.feed(0, 0, 0, 0, 0), 20);
    }

    /** Promise 1: "No PORTS, no RULES": an office without PORTS sends nothing, whatever its text. */
    private static void withoutPortsNothingIsSent() {
        StormFlags s = new StormFlags();
        Check.rules(s, "cone coast=0; cone low<99999");
        s.hours(200);
        Check.due("warnings without ports", s.count(4), 0);
        StormFlags one = Offices.warned(0, "cone coast=0; cone low<99999");
        Check.due("warnings with one port", one.count(4), 1);
    }

    /** Promise 1: "No PORTS, no RULES": an office without RULES sends nothing, whatever its PORTS. */
    private static void withoutRulesNothingIsSent() {
        StormFlags s = Offices.withPort(0);
        s.report(0, 0, 10500, 12);
        s.hours(8);
        s.report(0, 1, 9000, 12);
        s.hours(2);
        Check.due("warnings without rules", s.count(4), 0);
    }

    /** Promise 1: "NOW is 0.": of each object by itself. */
    private static void objectsShareNothing() {
        StormFlags s = new StormFlags();
        StormFlags other = new StormFlags();
        Offices.busy(other);
        for (int what = 0; what <= 8; what++) {
            Check.due("count(" + what + ")", s.count(what), 0);
        }
        Check.due("the tape", s.end(1), false);
    }

    /** What it is: "An object is used for at most 512 calls after it has been made". */
    private static void the512thCallIsAnsweredAsTheOthers() {
        StormFlags s = new StormFlags();
        List<Integer> answers = new ArrayList<>();
        for (int i = 0; i < 12; i++) {
            answers.add(s.port(i, 15 - i, i % 4, i));
        }
        for (int i = 0; i < 300; i++) {
            answers.add(s.report(i % 12, 0, 9000 + i, i % 13));
        }
        for (int i = 0; i < 30; i++) {
            answers.add(s.gale(i % 12, 1 + i, 2000, 8));
        }
        for (int i = 0; i < 12; i++) {
            answers.add(s.boat(i, 2, 13));
            answers.add(s.trip(i, 1, 48) ? 1 : 0);
        }
        while (answers.size() < 511) {
            answers.add(s.hours(10));
        }
        Check.due("the 511th answer", answers.get(510), 1450);
        Check.due("the 512th answer", s.counts(11, 0, 1450), 299);
    }
}
