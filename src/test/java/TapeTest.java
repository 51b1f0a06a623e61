/** Promises 2 and 3: the TAPE. */
public final class TapeTest {
    private static final int BLANKS = 0x20202020;

    public static void main(String[] args) {
        Check.all(TapeTest.class);
    }

    private static int feedBlanks(StormFlags s) {
        return s.feed(BLANKS, BLANKS, BLANKS, BLANKS, BLANKS);
    }

    /** A tape of so many blanks. */
    private static StormFlags taped(int length) {
        StormFlags s = new StormFlags();
        for (int i = 0; i < 20; i++) {
            feedBlanks(s);
        }
        s.end(length);
        return s;
    }

    /** The place of the only byte that is no blank; NONE if all are. */
    private static int placeOfOddByte(StormFlags s) {
        Check.thrownBy(s, StormFlags::rules);
        return s.fault();
    }

    /** Promise 2: "Twenty bytes come behind the TAPE, ..: how many it has": from none to 400. */
    private static void eachFeedBringsTwenty() {
        StormFlags s = new StormFlags();
        for (int i = 1; i <= 20; i++) {
            Check.due("feed " + i, s.feed(i, Check.LOWEST, Check.HIGHEST, -1, 0), 20 * i);
        }
    }

    /** Promise 2: "of each number the highest first": the place of each of the twenty bytes. */
    private static void theHighestByteComesFirst() {
        for (int place = 0; place < 20; place++) {
            int[] n = {BLANKS, BLANKS, BLANKS, BLANKS, BLANKS};
            n[place / 4] ^= 0xff << (24 - place % 4 * 8);
            StormFlags s = new StormFlags();
            s.feed(n[0], n[1], n[2], n[3], n[4]);
            Check.due("the odd byte", placeOfOddByte(s), place);
        }
    }

    /** Promise 2: "Twenty bytes come": each byte is 0 to 255, and of these 32 alone is a blank. */
    private static void aByteIsAnyOf256() {
        for (int value = 0; value < 256; value++) {
            StormFlags s = new StormFlags();
            s.feed(value << 24 | 0x202020, BLANKS, BLANKS, BLANKS, BLANKS);
            Check.due("byte " + value, placeOfOddByte(s), value == ' ' ? Check.NONE : 0);
        }
    }

    /** Promise 2: "come behind the TAPE": behind what end left of it, and behind an empty one. */
    private static void aFeedComesBehindTheTape() {
        for (int length : new int[] {0, 1, 19, 20, 21, 380}) {
            StormFlags s = taped(length);
            Check.due("feed behind " + length, s.feed(0, BLANKS, BLANKS, BLANKS, BLANKS), length + 20);
            Check.due("its first byte", placeOfOddByte(s), length);
        }
    }

    /** Promise 2: "NONE, and none come, if it would have more than 400.": at 399, 400 and 401. */
    private static void aTapeHasAtMost400() {
        Check.due("379 and 20", feedBlanks(taped(379)), 399);
        Check.due("380 and 20", feedBlanks(taped(380)), 400);
        Check.due("381 and 20", feedBlanks(taped(381)), Check.NONE);
        Check.due("399 and 20", feedBlanks(taped(399)), Check.NONE);
        Check.due("400 and 20", feedBlanks(taped(400)), Check.NONE);
    }

    /** Promise 2: "NONE, and none come": the TAPE is as it was, in length and in bytes. */
    private static void ofARefusedFeedNoneCome() {
        for (int length : new int[] {381, 399, 400}) {
            StormFlags s = taped(length);
            s.feed(0, 0, 0, 0, 0);
            Check.due("one more than " + length, s.end(length + 1), false);
            Check.due("all " + length, s.end(length), true);
            Check.due("an odd byte", placeOfOddByte(s), Check.NONE);
        }
        StormFlags s = taped(381);
        feedBlanks(s);
        s.end(380);
        Check.due("a feed that has room behind one that had none", feedBlanks(s), 400);
    }

    /** Promise 3: "The TAPE has its first n bytes alone: true": from none to all, and not its last ones. */
    private static void endLeavesTheFirstBytes() {
        for (int n : new int[] {0, 1, 12, 13, 19, 20}) {
            StormFlags s = new StormFlags();
            s.feed(BLANKS, BLANKS, BLANKS, 0x20782020, BLANKS);
            Check.due("end(" + n + ") of 20", s.end(n), true);
            Check.due("one more than it has", s.end(n + 1), false);
            Check.due("the byte 13", placeOfOddByte(s), n <= 13 ? Check.NONE : 13);
        }
    }

    /** Promise 3: "The TAPE has its first n bytes alone": what was cut off does not come again. */
    private static void whatEndCutsIsGone() {
        StormFlags s = new StormFlags();
        s.feed(0x78787878, 0, 0, 0, 0);
        s.end(0);
        Check.due("a new feed", feedBlanks(s), 20);
        Check.due("the old bytes", placeOfOddByte(s), Check.NONE);
    }

    /** Promise 3: "false, and nothing happens, if it has fewer": at the length, one more, and far more. */
    private static void endOfMoreThanThereIs() {
        int[] lengths = {0, 1, 20, 399, 400};
        for (int length : lengths) {
            StormFlags s = taped(length);
            Check.due("end of one more than " + length, s.end(length + 1), false);
            Check.due("end of the highest number", s.end(Check.HIGHEST), false);
            Check.due("end of " + length, s.end(length), true);
            Check.due("one more still", s.end(length + 1), false);
        }
    }

    /** Promise 3: "false, and nothing happens, if .. n is below 0.": at 0, -1, and far below. */
    private static void endBelow0() {
        StormFlags s = taped(20);
        Check.due("end(-1)", s.end(-1), false);
        Check.due("end of the lowest number", s.end(Check.LOWEST), false);
        Check.due("all stands", s.end(20), true);
        Check.due("end(0)", s.end(0), true);
        Check.due("nothing stands", s.end(1), false);
        Check.due("end(-1) of nothing", s.end(-1), false);
    }
}
