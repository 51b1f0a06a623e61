/** Promises 8 and 9, and the text of THE RULES. */
public final class RulesTest {
    private static final String[] WORDS = {"fall", "low", "wind", "coast"};
    private static final String RIGHT_SIGNS = "><>=";

    public static void main(String[] args) {
        Check.all(RulesTest.class);
    }

    /** So many rules, eleven bytes each with its ; but for the last one. */
    private static String rules(int many) {
        return "cone low<1;".repeat(many).substring(0, Math.max(0, 11 * many - 1));
    }

    /** One rule of so many conditions: 4 bytes, and 10 bytes for each but the last one's four. */
    private static String conditions(int many) {
        return "cone" + " low<1 and".repeat(many - 1) + " low<1";
    }

    /** The rules section: "RULE { ; RULE }, at most 8.": from 1 to 8, and 9. */
    private static void thereAreAtMost8Rules() {
        for (int many = 1; many <= 8; many++) {
            Check.dueRules(rules(many), many);
        }
        Check.dueFault(rules(9), 88);
        Check.dueFault(rules(10), 88);
    }

    /** The rules section: "RULE { ; RULE }": a ; stands between two RULES and nowhere else. */
    private static void aSemicolonStandsBetweenRules() {
        Check.dueFault(";", 0);
        Check.dueFault(" ; cone low<1", 1);
        Check.dueFault("cone low<1;", 11);
        Check.dueFault("cone low<1;;cone low<1", 11);
        Check.dueFault("cone low<1 cone low<1", 11);
        Check.dueFault("cone low<1,cone low<1", 10);
        Check.dueFault("cone; low<1", 4);
        Check.dueFault("cone low;<1", 8);
        Check.dueFault("cone low<;1", 9);
        Check.dueFault("cone low<1 and; low<1", 14);
    }

    /** The rules section: "RULE: cone CONDITIONS | drum CONDITIONS". */
    private static void aRuleBeginsWithConeOrDrum() {
        Check.dueRules("cone low<1", 1);
        Check.dueRules("drum low<1", 1);
        Check.dueFault("low<1", 0);
        Check.dueFault("cone drum low<1", 5);
        Check.dueFault("cone cone low<1", 5);
        Check.dueFault("drum cone low<1", 5);
        Check.dueFault("and low<1", 0);
        Check.dueFault("fall low<1", 0);
        Check.dueFault("cone low<1; low<1", 12);
    }

    /** The rules section: "CONDITION { and CONDITION }, at most 4.": none, 1 to 4, and 5. */
    private static void thereAreAtMost4Conditions() {
        Check.dueFault("cone", 4);
        Check.dueFault("cone;cone low<1", 4);
        for (int many = 1; many <= 4; many++) {
            Check.dueRules(conditions(many), 1);
            Check.dueRules(conditions(many) + ";" + conditions(many), 2);
        }
        Check.dueFault(conditions(5), 41);
        Check.dueFault(conditions(6), 41);
        Check.dueFault(conditions(4) + ";" + conditions(5), 41 + 41);
    }

    /** The rules section: "CONDITION { and CONDITION }": an and stands between two CONDITIONS, and nowhere else. */
    private static void anAndStandsBetweenConditions() {
        Check.dueFault("cone and low<1", 5);
        Check.dueFault("cone low<1 and", 14);
        Check.dueFault("cone low<1 and and low<1", 15);
        Check.dueFault("cone low<1 low<1", 11);
        Check.dueFault("cone low and <1", 9);
        Check.dueFault("cone low< and 1", 10);
        Check.dueFault("cone low<1 and cone low<1", 15);
    }

    /** The rules section: "at most 8", "at most 4": each of 32 CONDITIONS has its say, and in its RULE alone. */
    private static void eachOf32ConditionsCounts() {
        for (int odd = 0; odd < 32; odd++) {
            StringBuilder text = new StringBuilder();
            for (int i = 0; i < 32; i++) {
                text.append(i % 4 > 0 ? "and " : i == 0 ? "cone " : ";cone ").append(i == odd ? "coast=1" : "coast=0");
            }
            StormFlags s = Offices.warned(0, text.toString());
            Check.due("seven of eight rules", s.count(4), 7);
            for (int i = 0; i < 7; i++) {
                Check.dueWarning(s, i, 10, 0, 0, i < odd / 4 ? i : i + 1);
            }
        }
    }

    /** The rules section: "CONDITION: fall > NUMBER | low < NUMBER | wind > NUMBER | coast = NUMBER." */
    private static void eachWordHasItsOwnSign() {
        for (int i = 0; i < WORDS.length; i++) {
            for (char sign : "<>=".toCharArray()) {
                String text = "cone " + WORDS[i] + " " + sign + " 1";
                if (sign == RIGHT_SIGNS.charAt(i)) {
                    Check.dueRules(text, 1);
                } else {
                    Check.dueFault(text, 6 + WORDS[i].length());
                }
            }
        }
    }

    /** The rules section: "fall > NUMBER | low < NUMBER | wind > NUMBER | coast = NUMBER": never without its word. */
    private static void aConditionHasItsWord() {
        for (String rest : new String[] {">1", "<1", "=1", "1", "> 1 and low<1"}) {
            Check.dueFault("cone " + rest, 5);
            Check.dueFault("cone" + rest, 4);
            Check.dueFault("cone low<1 and " + rest, 15);
        }
    }

    /** The rules section: "fall > NUMBER | ..": one sign, not none and not two. */
    private static void aConditionHasOneSign() {
        for (int i = 0; i < WORDS.length; i++) {
            String begin = "cone " + WORDS[i];
            char sign = RIGHT_SIGNS.charAt(i);
            Check.dueFault(begin + " 1", begin.length() + 1);
            Check.dueFault(begin + sign + sign + "1", begin.length() + 1);
            Check.dueFault(begin + sign + " = 1", begin.length() + 2);
            Check.dueFault(begin + (char) (sign + 128) + "1", begin.length());
        }
    }

    /** The rules section: "A NUMBER: 1 to 5 digits.": none, 1 to 5, 6, and many. */
    private static void aNumberHas1To5Digits() {
        Check.dueFault("cone low<", 9);
        Check.dueFault("cone low<;", 9);
        for (int digits = 1; digits <= 5; digits++) {
            Check.dueRules("cone low<" + "9".repeat(digits), 1);
            Check.dueRules("cone low<" + "0".repeat(digits) + " ", 1);
        }
        Check.dueFault("cone low<999999", 9);
        Check.dueFault("cone low<000001", 9);
        Check.dueFault("cone low<" + "9".repeat(391), 9);
    }

    /** The rules section: "A NUMBER: .. digits": the bytes next to 0 and 9 are no digits. */
    private static void digitsAre0To9() {
        for (char digit = '0'; digit <= '9'; digit++) {
            Check.dueRules("cone low<" + digit, 1);
        }
        for (char sign : "/:-+.a\u00b1".toCharArray()) {
            Check.dueFault("cone low<" + sign, 9);
            Check.dueFault("cone low<" + sign + "1", 9);
            Check.dueFault("cone low<1" + sign, 10);
            Check.dueFault("cone low<12345" + sign, 14);
        }
    }

    /** The rules section: "A NUMBER: 1 to 5 digits": what it is worth, from 0 to 99999, with 0 ahead too. */
    private static void aNumberIsWorthItsDigits() {
        dueHighestLow("9501", "09501");
        StormFlags s = new StormFlags();
        s.port(0, 0, 3, 0);
        Offices.warn(s, "cone coast=3; cone coast=03; cone coast=00003; cone coast=30; cone coast=0; cone coast=99999;"
                + "cone low<0;cone wind>00000");
        Check.due("warnings of coast 3", s.count(4), 3);
    }

    /** The rules section: "A NUMBER: 1 to 5 digits": all five count, the first as well as the last. */
    private static void everyDigitOfANumberCounts() {
        for (int coast = 0; coast <= 3; coast++) {
            for (int more : new int[] {4, 8, 10, 16, 32, 100, 128, 256, 1000, 10000, 32768, 65536, 90000}) {
                StormFlags s = new StormFlags();
                s.port(0, 0, coast, 0);
                Offices.warn(s, "cone coast=" + (coast + more));
                Check.due("coast " + coast + " by " + (coast + more), s.count(4), 0);
            }
        }
        for (int number : new int[] {9501, 10000, 16384, 32768, 40000, 65535, 65536, 70000, 90000, 99999}) {
            StormFlags s = Offices.withPort(0);
            s.hours(8);
            s.report(0, 1, 9500, 12);
            Offices.warn(s, "drum wind>" + number + "; cone low<" + number);
            Check.due("by " + number, s.count(4), 1);
            Check.dueWarning(s, 0, 10, 0, 0, 1);
        }
    }

    /** Of a field of 9500: low< this is the least that warns. */
    private static void dueHighestLow(String... numbers) {
        for (String number : numbers) {
            StormFlags s = Offices.withPort(0);
            s.hours(8);
            s.report(0, 1, 9500, 0);
            Offices.warn(s, "cone low<" + number + "; drum low<" + (Integer.parseInt(number) - 1) + "; cone low<99999");
            Check.due("warnings by " + number, s.count(4), 2);
            Check.dueWarning(s, 0, 10, 0, 0, 0);
            Check.dueWarning(s, 1, 10, 0, 0, 2);
        }
    }

    /** The rules section: "Words are as long as a to z go on": a word that goes on is another word. */
    private static void aWordGoesOnAsLongAsItCan() {
        for (char more : "aez".toCharArray()) {
            Check.dueFault("cone" + more + " low<1", 0);
            Check.dueFault("drum" + more + " low<1", 0);
            Check.dueFault(more + "cone low<1", 0);
            Check.dueFault("cone low<1 and" + more + " low<1", 11);
            for (int i = 0; i < WORDS.length; i++) {
                Check.dueFault("cone " + WORDS[i] + more + RIGHT_SIGNS.charAt(i) + "1", 5);
            }
        }
        Check.dueFault("conelow<1", 0);
        Check.dueFault("cone low<1 andlow<1", 11);
        Check.dueFault("cone lowlow<1", 5);
    }

    /** The rules section: "Words are as long as a to z go on": the bytes next to a and z, and A to Z, end a word. */
    private static void otherBytesEndAWord() {
        for (char other : "`{AZ0_\u00e1\u00fa".toCharArray()) {
            Check.dueFault("cone" + other + "low<1", 4);
            Check.dueFault("cone low" + other + "<1", 8);
            Check.dueFault("cone low<1 and" + other, 14);
            Check.dueFault(other + "cone low<1", 0);
        }
        Check.dueFault("Cone low<1", 0);
        Check.dueFault("conE low<1", 0);
        Check.dueFault("cone Low<1", 5);
    }

    /** The rules section: "Words ..": a word that ends too early is none. */
    private static void aWordMustBeWhole() {
        Check.dueFault("con low<1", 0);
        Check.dueFault("dru low<1", 0);
        Check.dueFault("c one low<1", 0);
        Check.dueFault("cone fal>1", 5);
        Check.dueFault("cone lo<1", 5);
        Check.dueFault("cone win>1", 5);
        Check.dueFault("cone coas=1", 5);
        Check.dueFault("cone low<1 an low<1", 11);
        Check.dueFault("bone low<1", 0);
        Check.dueFault("cond low<1", 0);
    }

    /** The rules section: "between all there may be blanks (32)": none where none is needed, one, and many. */
    private static void blanksMayStandBetweenAll() {
        String[] things = {"cone", "fall", ">", "1", "and", "low", "<", "2", ";", "drum", "wind", ">", "3"};
        for (int blanks : new int[] {1, 2, 17}) {
            Check.dueRules(String.join(" ".repeat(blanks), things), 2);
        }
        Check.dueRules("cone fall>1and low<2;drum wind>3", 2);
        Check.dueRules("cone fall>1 and low<2 ;drum wind>3", 2);
        Check.dueRules("cone fall>1and low<2; drum wind>3", 2);
    }

    /** The rules section: "between all": not within a word or a NUMBER. */
    private static void blanksEndWordsAndNumbers() {
        Check.dueFault("co ne low<1", 0);
        Check.dueFault("cone l ow<1", 5);
        Check.dueFault("cone low<1 2", 11);
        Check.dueFault("cone low<12345 6", 15);
        Check.dueFault("cone low<1 a nd low<1", 11);
    }

    /** The rules section: "blanks (32), also ahead and behind." */
    private static void blanksMayStandAheadAndBehind() {
        Check.dueRules(" cone low<1", 1);
        Check.dueRules("cone low<1 ", 1);
        Check.dueRules(" ".repeat(195) + "cone low<1" + " ".repeat(195), 1);
        Check.dueRules(" ".repeat(390) + "cone low<1", 1);
        Check.dueRules("cone low<1" + " ".repeat(390), 1);
    }

    /** The rules section: "blanks (32)": no byte but 32 is one, neither 31 nor 33 nor 160. */
    private static void otherBytesAreNoBlanks() {
        for (char odd : new char[] {0, 9, 10, 13, 31, 33, 127, 160, 255}) {
            Check.dueFault("" + odd, 0);
            Check.dueFault("  " + odd + "cone low<1", 2);
            Check.dueFault("cone" + odd + "low<1", 4);
            Check.dueFault("cone low" + odd + "<1", 8);
            Check.dueFault("cone low<" + odd + "1", 9);
            Check.dueFault("cone low<1" + odd, 10);
            Check.dueFault("cone low<1;" + odd + "cone low<1", 11);
        }
    }

    /** The rules section: "A text that is empty, or blanks alone, has none.": 0, 1, and 400 blanks. */
    private static void anEmptyTextHasNoRules() {
        Check.due("rules() with no tape", new StormFlags().rules(), 0);
        for (int blanks : new int[] {0, 1, 2, 399, 400}) {
            Check.dueRules(" ".repeat(blanks), 0);
        }
        Check.dueFault(" ".repeat(399) + ";", 399);
    }

    /** The rules section: "A text that is empty, or blanks alone, has none.": also in place of one before. */
    private static void anEmptyTextTakesTheRulesAway() {
        StormFlags s = Offices.withPort(0);
        for (String empty : new String[] {"", "   "}) {
            Check.rules(s, "cone coast=0");
            Check.due("no rules", Check.rules(s, empty), 0);
            Check.due("count of rules", s.count(3), 0);
        }
        s.hours(200);
        Check.due("warnings", s.count(4), 0);
    }

    /** The rules section: "the begin of .. (a NUMBER of more digits;": also where it stands at the text's end. */
    private static void aNumberOfMoreDigitsIsWrongAtItsBegin() {
        Check.dueFault("cone fall > 123456", 12);
        Check.dueFault("cone fall >   123456  ", 14);
        Check.dueFault("cone fall > 123456 and", 12);
        Check.dueFault("cone fall > 12345 and low < 123456", 28);
        Check.dueFault("cone fall>1; drum coast=000003", 24);
    }

    /** The rules section: "a word that is none;": a flag, a CONDITION's word, an and. */
    private static void aWordThatIsNoneIsWrongAtItsBegin() {
        Check.dueFault("flag", 0);
        Check.dueFault("  flag low<1", 2);
        Check.dueFault("cone  high<1", 6);
        Check.dueFault("cone low<1  or low<1", 12);
        Check.dueFault("cone low<1 and  high<1", 16);
        Check.dueFault("cone low<1;  flag low<1", 13);
        Check.dueFault("cone low<  one", 11);
        Check.dueFault("cone low is 1", 9);
    }

    /** The rules section: "an and behind the 4th CONDITION;": at its begin, in the last RULE too. */
    private static void anAndBehindThe4thConditionIsWrong() {
        Check.dueFault(conditions(4) + " and low<1", 41);
        Check.dueFault(conditions(4) + "and", 40);
        Check.dueFault(conditions(4) + "   and  ", 43);
        Check.dueFault(rules(7) + ";" + conditions(4) + " and low<1", 77 + 41);
        Check.dueRules(rules(7) + ";" + conditions(4), 8);
    }

    /** The rules section: "of a 9th RULE its first word)": right or wrong as a word, and however it goes on. */
    private static void ofA9thRuleItsFirstWordIsWrong() {
        Check.dueFault(rules(8) + ";cone low<1", 88);
        Check.dueFault(rules(8) + ";drum", 88);
        Check.dueFault(rules(8) + " ;  cone low<1", 91);
        Check.dueFault(rules(8) + "; flag", 89);
        Check.dueFault(rules(8) + ";;", 88);
        Check.dueFault(rules(8) + " cone", 88);
    }

    /** The rules section: "or the text's length, if more must come.": behind each thing, with blanks too. */
    private static void theTextsLengthIfMoreMustCome() {
        String[] unfinished = {"cone", "drum", "cone low", "cone low<", "cone low<1 and", "cone low<1 and wind",
            "cone low<1 and wind>", "cone low<1;", "cone low<1;drum", rules(8) + ";", conditions(3) + " and"};
        for (String text : unfinished) {
            Check.dueFault(text, text.length());
            Check.dueFault(text + "   ", text.length() + 3);
        }
    }

    /** The rules section: "or the text's length, if more must come.": on a TAPE of 399 bytes, and on a full one. */
    private static void theTextsLengthOnAFullTape() {
        String[] unfinished = {"cone", "cone low", "cone low<", "cone low<1 and", "cone low<1;"};
        for (String text : unfinished) {
            for (int length : new int[] {399, 400}) {
                String blanks = " ".repeat(length - text.length());
                Check.dueFault(blanks + text, length);
                Check.dueFault(text + blanks, length);
            }
        }
        for (int length : new int[] {399, 400}) {
            String blanks = " ".repeat(length - 10);
            Check.dueRules(blanks + "cone low<1", 1);
            Check.dueFault(blanks + "cone low<x", length - 1);
            Check.dueFault(blanks + "cone low?1", length - 2);
        }
    }

    /** Promise 3: "The TAPE has its first n bytes alone": a text ends there, whatever was on the TAPE behind it. */
    private static void aTextEndsWhereTheTapeEnds() {
        String whole = "cone fall > 12 and low<3; drum wind>45 and coast=1";
        for (int n = 0; n <= whole.length(); n++) {
            StormFlags cut = new StormFlags();
            Check.type(cut, whole);
            cut.end(n);
            StormFlags alone = new StormFlags();
            Check.type(alone, whole.substring(0, n));
            String call = "rules() of '" + whole.substring(0, n) + "'";
            boolean right = Check.thrownBy(alone, StormFlags::rules).equals("nothing");
            Check.due(call, Check.thrownBy(cut, StormFlags::rules).equals("nothing"), right);
            Check.due(call + ", the fault", cut.fault(), alone.fault());
            Check.due(call + ", how many", cut.count(3), alone.count(3));
        }
    }

    /** Promise 8: "Uses the TAPE up": nothing of a longer text is left for a shorter one. */
    private static void aLongerTextLeavesNothing() {
        StormFlags s = new StormFlags();
        Check.rules(s, "cone low<12345;cone low<12345");
        s.feed(0x636f6e65, 0x206c6f77, 0x3c000000, 0, 0);
        s.end(9);
        Check.dueThrow("'cone low<'", s, StormFlags::rules, IllegalArgumentException.class);
        Check.due("its fault", s.fault(), 9);
    }

    /** The rules section: "The first wrong byte": of several the first, wherever the others are. */
    private static void theFirstOfSeveralFaults() {
        Check.dueFault("flag high ? x", 0);
        Check.dueFault("cone high ? x", 5);
        Check.dueFault("cone low ? x", 9);
        Check.dueFault("cone low < x ; flag", 11);
        Check.dueFault("cone low < 1 ; flag ; cone", 15);
        Check.dueFault("cone low < 1 ; cone", 19);
    }

    /** The rules section: "A text stands in place of the one before.": a longer and a shorter one. */
    private static void aTextStandsInPlaceOfTheOneBefore() {
        StormFlags s = Offices.withPort(0);
        Check.due("two", Check.rules(s, "cone coast=0; drum coast=0"), 2);
        Check.due("eight", Check.rules(s, "drum coast=0" + ";cone coast=1".repeat(7)), 8);
        s.hours(10);
        Check.due("of eight the first warns", s.count(4), 1);
        Check.dueWarning(s, 0, 10, 0, 1, 0);
        Check.due("one", Check.rules(s, "cone coast=0"), 1);
        Check.due("count of rules", s.count(3), 1);
        s.hours(8);
        Check.due("of one it warns", s.count(4), 2);
        Check.dueWarning(s, 1, 18, 0, 0, 0);
    }

    /** Promise 8: "Uses the TAPE up": by a right text, by a wrong one, and by none. */
    private static void rulesUsesTheTapeUp() {
        for (String text : new String[] {"", "  ", "cone low<1", "flag", rules(8), rules(9)}) {
            StormFlags s = new StormFlags();
            Check.type(s, text);
            Check.thrownBy(s, StormFlags::rules);
            Check.due("a byte of the tape", s.end(1), false);
            Check.due("a feed behind it", s.feed(0, 0, 0, 0, 0), 20);
        }
    }

    /** Promise 8: "the RULES: how many.": a second rules() reads an empty TAPE, so it has none. */
    private static void aSecondRulesHasNone() {
        StormFlags s = new StormFlags();
        Check.due("the first", Check.rules(s, "cone low<1"), 1);
        Check.due("the second", s.rules(), 0);
        Check.due("count of rules", s.count(3), 0);
    }

    /** Promise 8: "IllegalArgumentException: the text is wrong: all stays.": the RULES, how many and what they say. */
    private static void byAWrongTextTheRulesStay() {
        for (String text : new String[] {"flag", "drum coast=1; drum coast=0; drum", "cone coast=1 and coast=1 and"}) {
            StormFlags s = Offices.withPort(0);
            Check.rules(s, "cone coast=0; drum coast=0");
            Check.type(s, text);
            Check.dueThrow("'" + text + "'", s, StormFlags::rules, IllegalArgumentException.class);
            Check.due("count of rules", s.count(3), 2);
            s.hours(10);
            Check.due("warnings", s.count(4), 2);
            Check.dueWarning(s, 0, 10, 0, 0, 0);
            Check.dueWarning(s, 1, 10, 0, 1, 1);
        }
    }

    /** Promise 8: "all stays": all that is no text, too. */
    private static void byAWrongTextAllElseStays() {
        Check.dueNoChange("a wrong text", s -> {
            Offices.busy(s);
            s.end(0);
        }, s -> {
            Check.type(s, "cone low<10500; drum low<10500; flag");
            Check.dueThrow("a wrong text", s, StormFlags::rules, IllegalArgumentException.class);
            Check.due("its fault", s.fault(), 32);
            // The fault is that of the latest rules(); one that puts the same rules there again takes it away.
            Check.rules(s, "cone low<9900; drum wind>7 and coast=0; drum coast=2");
        });
    }

    /** Promise 9: "NONE without one, and ahead of any." */
    private static void faultIsNoneWithoutAFault() {
        StormFlags s = new StormFlags();
        Check.due("ahead of any", s.fault(), Check.NONE);
        Check.type(s, "flag");
        Check.due("ahead of any, with a wrong text on the tape", s.fault(), Check.NONE);
        Check.rules(s, "");
        Check.due("behind an empty text", s.fault(), Check.NONE);
        Check.rules(s, "cone low<1");
        Check.due("behind a right text", s.fault(), Check.NONE);
    }

    /** Promise 9: "The first wrong byte of the latest rules()": by each rules() anew, and by no other call. */
    private static void faultIsOfTheLatestRules() {
        StormFlags s = new StormFlags();
        Check.type(s, "cone  x");
        Check.thrownBy(s, StormFlags::rules);
        Check.due("the fault", s.fault(), 6);
        Check.due("the fault again", s.fault(), 6);
        Offices.later(s);
        s.port(0, 0, 0, 0);
        Check.type(s, "flag");
        Check.due("the fault behind other calls", s.fault(), 6);
        Check.thrownBy(s, StormFlags::rules);
        Check.due("a fault at 0", s.fault(), 0);
        Check.thrownBy(s, StormFlags::rules);
        Check.due("no fault in an empty text", s.fault(), Check.NONE);
        Check.type(s, "cone");
        Check.thrownBy(s, StormFlags::rules);
        Check.due("a fault at the end", s.fault(), 4);
        Check.rules(s, "cone low<1");
        Check.due("no fault in a right text", s.fault(), Check.NONE);
    }
}
