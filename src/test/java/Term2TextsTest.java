/** The boundary cases of the term 2, TEXTS: what is read, where the FAULT is, what a TEXT gives. */
public final class Term2TextsTest extends Cases {
    private Term2TextsTest() {
    }

    public static void main(String[] args) {
        runAll(Term2TextsTest.class);
    }

    /** The FAULT of a TEXT of FEEDS; -1: there is none. */
    private static int fault(String text) {
        PigNinths x = new PigNinths();
        int answer = text(x, 0, text);
        return answer == 1 ? -1 : -10 - answer;
    }

    /** What a NOSE gives: u is 12, a is 7, h is 5. */
    private static int value(String text) {
        PigNinths x = new PigNinths();
        x.oak(7, 1, 12);
        due(1, text(x, 1, text));
        return x.oakIs(7, 2);
    }

    private static String times(int n, String text) {
        return text.repeat(n);
    }

    // ---- the length of the tape

    static void term2_tape_empty() {
        due(0, fault(""));
    }

    static void term2_tape_of1Byte() {
        due(-1, fault("f"));
        due(0, fault("+"));
        due(1, fault("!"));
        due(1, fault("("));
    }

    static void term2_tape_of60BytesIsATextToItsLast() {
        due(-1, fault(times(29, "1+") + "11"));
        due(40, value(times(29, "1+") + "11"));
    }

    static void term2_tape_of60BytesEachASignANameOrADigit() {
        // As many parts as a TEXT can have: each of them counts, the first and the last.
        due(29 * 7, value("!u" + times(29, "+a")));
        due(29 * 7 + 1, value("!0" + times(29, "+a")));
        due(28 * 7 - 5, value("!u" + times(28, "+a") + "-h"));
        PigNinths x = new PigNinths();
        due(1, text(x, 1, "!9" + times(29, "-9")));
        due(1, text(x, 1, "!u" + times(29, "+a")));
        due(1 + 29 * 7, x.oakIs(7, 2));
    }

    static void term2_tape_of60BytesWithAFaultAtItsLast() {
        due(59, fault(times(29, "1+") + "1)"));
    }

    static void term2_tape_of60BytesThatEndTooEarly() {
        due(60, fault(times(30, "1+")));
    }

    static void term2_tape_theLongestChainOfEachSign() {
        for (String sign : new String[] {"|", "&", "+", "-", "*", "/", "%"}) {
            due(-1, fault(times(29, "f" + sign) + "f"));
        }
    }

    // ---- the parts

    static void term2_t_oneOrMoreByOr() {
        due(-1, fault("f|f"));
        due(0, fault("|"));
        due(0, fault("|f"));
        due(2, fault("f|"));
        due(2, fault("f||f"));
    }

    static void term2_a_oneOrMoreByAnd() {
        due(-1, fault("f&f"));
        due(0, fault("&f"));
        due(2, fault("f&"));
        due(2, fault("f&&f"));
        due(2, fault("f&|f"));
    }

    static void term2_b_oneComparisonAtMost() {
        for (String first : new String[] {"<", "=", ">"}) {
            due(-1, fault("f" + first + "h"));
            due(0, fault(first + "h"));
            due(2, fault("f" + first));
            for (String second : new String[] {"<", "=", ">"}) {
                due(2, fault("f" + first + second + "h"));
                due(3, fault("f" + first + "h" + second + "m"));
            }
        }
    }

    static void term2_b_oneMoreComparisonBehindAndOrOrOrInBrackets() {
        due(-1, fault("f<h&f<m|f<h"));
        due(-1, fault("(f<h)<m"));
        due(-1, fault("f<(h<m)"));
        due(7, fault("(f<h)<m<f"));
    }

    static void term2_s_oneOrMoreByPlusAndMinus() {
        due(-1, fault("f+f-f"));
        due(0, fault("+f"));
        due(0, fault("-1"));
        due(2, fault("f+"));
        due(2, fault("f-"));
        due(2, fault("f--f"));
        due(2, fault("f+-f"));
    }

    static void term2_p_oneOrMoreByTimes() {
        due(-1, fault("f*f/f%f"));
        for (String sign : new String[] {"*", "/", "%"}) {
            due(0, fault(sign + "f"));
            due(2, fault("f" + sign));
            due(2, fault("f" + sign + sign + "f"));
            due(2, fault("f" + sign + "-1"));
        }
    }

    static void term2_q_emptyBrackets() {
        due(1, fault("()"));
        due(3, fault("f+()"));
    }

    static void term2_q_aBracketThatIsNotClosed() {
        due(2, fault("(f"));
        due(3, fault("((f"));
        due(4, fault("((f)"));
    }

    static void term2_q_aBracketThatWasNotOpened() {
        due(0, fault(")"));
        due(1, fault("f)"));
        due(3, fault("(f))"));
    }

    static void term2_q_notBehindSomethingElse() {
        due(1, fault("ff"));
        due(1, fault("f2"));
        due(1, fault("2f"));
        due(1, fault("f!h"));
        due(1, fault("f(h)"));
        due(3, fault("(f)(h)"));
        due(3, fault("(f)2"));
    }

    static void term2_q_notOfNothing() {
        due(1, fault("!"));
        due(1, fault("!+f"));
        due(1, fault("!)"));
        due(-1, fault("!f"));
    }

    static void term2_q_notBindsOneQ() {
        due(2, value("!0+1"));
        due(0, value("!(0+1)"));
        due(2, value("!0*2"));
        due(1, value("!5=0"));
    }

    // ---- numbers

    static void term2_number_of1To4Digits() {
        due(0, value("0"));
        due(9, value("9"));
        due(10, value("10"));
        due(999, value("999"));
        due(9999, value("9999"));
        due(0, value("0000"));
        due(7, value("0007"));
    }

    static void term2_number_the5thDigitIsTheFault() {
        due(4, fault("12345"));
        due(4, fault("00000"));
        due(4, fault("99999"));
        due(6, fault("f+12345"));
        due(5, fault("(12345)"));
        due(4, fault("123456"));
    }

    static void term2_number_theSignsBesideTheDigitsAreNone() {
        // / stands ahead of 0, : behind 9.
        due(0, fault("/"));
        due(0, fault(":"));
        due(1, fault("1:"));
    }

    // ---- names and bytes that are none

    static void term2_names_ofFeeds() {
        PigNinths x = new PigNinths();
        for (String name : new String[] {"f", "h", "m"}) {
            due(1, text(x, 0, name));
        }
        for (String name : new String[] {"u", "a", "e", "g", "i", "l", "n", "F", "H", "M"}) {
            due(-10, text(x, 0, name));
        }
    }

    static void term2_names_ofNose() {
        PigNinths x = new PigNinths();
        for (String name : new String[] {"u", "a", "h"}) {
            due(1, text(x, 1, name));
        }
        for (String name : new String[] {"f", "m", "t", "v", "b", "g", "i", "U", "A", "H"}) {
            due(-10, text(x, 1, name));
        }
    }

    static void term2_names_ofTheOtherUseInTheMidst() {
        PigNinths x = new PigNinths();
        due(-12, text(x, 0, "f+u"));
        due(-12, text(x, 1, "u+f"));
    }

    static void term2_bytes_noBlanks() {
        due(0, fault(" "));
        due(0, fault(" f"));
        due(1, fault("f "));
        due(1, fault("f +h"));
        due(2, fault("f+ h"));
        due(1, fault("f\n"));
        due(1, fault("f\t"));
    }

    static void term2_bytes_0AndAbove127() {
        due(0, fault("\0"));
        due(1, fault("f\0"));
        due(0, fault("\200"));
        due(1, fault("f\377"));
        // The lowest seven bits of these are a name and a sign: they are none.
        due(0, fault("\346"));
        due(1, fault("f\253h"));
    }

    static void term2_bytes_noneIsATextButThoseOfTheGrammar() {
        for (char c = 0; c < 256; c++) {
            boolean stands = "0123456789fhm".indexOf(c) >= 0;
            boolean begins = "!(".indexOf(c) >= 0;
            due(stands ? -1 : begins ? 1 : 0, fault("" + c));
            boolean goesOn = "|&<=>+-*/%".indexOf(c) >= 0;
            due(goesOn ? 2 : 1, fault("f" + c));
        }
    }

    // ---- what is open at once

    static void term2_open_5Brackets() {
        due(-1, fault("(((((f)))))"));
        due(-1, fault("(((((9999)))))"));
    }

    static void term2_open_the6thBracketIsTheFault() {
        due(5, fault("((((((f))))))"));
        due(5, fault("(((((("));
        due(5, fault("((((("));
    }

    static void term2_open_5Nots() {
        due(-1, fault("!!!!!f"));
        due(0, value("!!!!!u"));
        due(1, value("!!!!u"));
    }

    static void term2_open_the6thNotIsTheFault() {
        due(5, fault("!!!!!!f"));
        due(5, fault("!!!!!"));
    }

    static void term2_open_bothAreCountedTogether() {
        due(-1, fault("!(!(!f))"));
        due(-1, fault("(!(!(f)))"));
        due(5, fault("!(!(!(f)))"));
        due(5, fault("(!(!(!f)))"));
        due(5, fault("(((((!f)))))"));
        due(5, fault("!!!!!(f)"));
    }

    static void term2_open_whatIsClosedIsNotCounted() {
        due(-1, fault("(((((f)))))+(((((f)))))"));
        due(-1, fault("!!!!!f*!!!!!f"));
        due(-1, fault("(!!!!f+!!!!f)"));
        due(-1, fault("((((f)+(f))))|!((((h))))"));
        due(17, fault("(((((f)))))+(((((("));
        due(12, fault("!!!!!f*!!!!!(f)"));
    }

    static void term2_open_aNotIsClosedBehindItsQ() {
        due(-1, fault("!!!!!f+(((((f)))))"));
        due(-1, fault("(((((f)))))&!!!!!f"));
        due(-1, fault("!(!f+!(!f))"));
        due(8, fault("!(!f+!(!(f)))"));
    }

    static void term2_open_inTheMidstNoMoreIsOpened() {
        due(-1, fault("((((f+(h)))))"));
        due(7, fault("(((((f+(h))))))"));
        due(7, fault("(((((f+!h)))))"));
    }

    // ---- faults

    static void term2_fault_atTheFirstByte() {
        due(0, fault("=f"));
        due(0, fault("x+f"));
    }

    static void term2_fault_atTheLastByte() {
        due(2, fault("f+x"));
        due(4, fault("f+h*x"));
    }

    static void term2_fault_howManyThereAreIfItEndsTooEarly() {
        due(1, fault("("));
        due(2, fault("f<"));
        due(-1, fault("(f+1)"));
        due(4, fault("(f+1"));
        due(5, fault("9999/"));
    }

    static void term2_fault_isThatOfTheFirst() {
        due(2, fault("f+x+y+("));
    }

    // ---- ints that wrap

    static void term2_wrap_aboveTheGreatest() {
        due(MAX, value("2048*1024*1024-1"));
        due(MIN, value("2048*1024*1024-1+1"));
    }

    static void term2_wrap_belowTheLeast() {
        due(MIN, value("0-2048*1024*1024"));
        due(MAX, value("0-2048*1024*1024-1"));
    }

    static void term2_wrap_products() {
        due(0, value("2048*1024*1024*2"));
        due((int) (9999L * 9999 * 9999), value("9999*9999*9999"));
        due(MIN, value("2048*1024*1024*(0-1)"));
    }

    static void term2_wrap_theLeastByLess1() {
        due(MIN, value("2048*1024*1024/(0-1)"));
        due(0, value("2048*1024*1024%(0-1)"));
    }

    static void term2_wrap_comparisonsAreOfTheNumbersNotOfADifference() {
        due(1, value("2048*1024*1024<2048*1024*1024-1"));
        due(0, value("2048*1024*1024>2048*1024*1024-1"));
        due(1, value("2048*1024*1024-1>2048*1024*1024"));
        due(1, value("2048*1024*1024+2048*1024*1024=0"));
    }

    // ---- quotients and rests

    static void term2_quotient_isCut() {
        due(3, value("7/2"));
        due(-3, value("(0-7)/2"));
        due(-3, value("7/(0-2)"));
        due(3, value("(0-7)/(0-2)"));
        due(0, value("1/2"));
        due(0, value("(0-1)/2"));
    }

    static void term2_rest_isWhatTheQuotientLeaves() {
        due(1, value("7%2"));
        due(-1, value("(0-7)%2"));
        due(1, value("7%(0-2)"));
        due(-1, value("(0-7)%(0-2)"));
        due(0, value("8%2"));
        due(0, value("7%1"));
    }

    static void term2_by0_bothAre0() {
        due(0, value("5/0"));
        due(0, value("5%0"));
        due(0, value("0/0"));
        due(0, value("0%0"));
        due(0, value("2048*1024*1024/0"));
        due(1, value("5/(3-3)+1"));
        due(1, value("5%(3-3)+1"));
    }

    static void term2_by1AndLess1_isNotBy0() {
        due(5, value("5/1"));
        due(-5, value("5/(0-1)"));
    }

    // ---- 1 or 0

    static void term2_true_whatIsNot0() {
        due(1, value("5|0"));
        due(1, value("0|5"));
        due(1, value("(0-1)|0"));
        due(1, value("5&7"));
        due(1, value("(0-1)&2048*1024*1024"));
        due(0, value("!(0-1)"));
        due(0, value("!2"));
    }

    static void term2_true_0IsNot() {
        due(0, value("0|0"));
        due(0, value("5&0"));
        due(0, value("0&5"));
        due(0, value("0&0"));
        due(1, value("!0"));
    }

    static void term2_true_bothAre1() {
        due(1, value("1|1"));
        due(1, value("2|2"));
        due(1, value("2&2"));
        due(1, value("1&2"));
    }

    static void term2_compared_oneLessTheSameAndOneMore() {
        int[][] rows = {{1, 0, 0}, {0, 1, 0}, {0, 0, 1}};
        String[] numbers = {"4", "5", "6"};
        for (int i = 0; i < 3; i++) {
            due(rows[i][0], value(numbers[i] + "<5"));
            due(rows[i][1], value(numbers[i] + "=5"));
            due(rows[i][2], value(numbers[i] + ">5"));
        }
    }

    static void term2_compared_below0() {
        due(1, value("0-1<0"));
        due(0, value("0-1>0"));
        due(1, value("0-6<0-5"));
        due(1, value("0-5=0-5"));
    }

    static void term2_allIsWorkedOut() {
        due(1, value("1|5/0"));
        due(0, value("0&5/0"));
        due(1, value("0&1|1"));
        due(1, value("1|0&0"));
    }

    static void term2_chains_fromTheLeft() {
        due(10, value("20-5-5"));
        due(10, value("100/5/2"));
        due(3, value("17%10%4"));
        due(5, value("100%30/2"));
        due(7, value("1+2*3"));
        due(9, value("(1+2)*3"));
    }

    // ---- uses

    static void term2_feeds_namesOfTheDay() {
        // 5 lie under OAK 0: THE FIND is 5; HUNGER is 6, m is 7.
        String[] texts = {"f", "h", "m"};
        for (int i = 0; i < 3; i++) {
            PigNinths x = dry();
            x.oak(0, 1, 5);
            x.pig(1, 6);
            x.farmer(0, 67);
            due(1, text(x, 0, texts[i]));
            due(5, x.days(1));
            due(9 - (5 + i), x.count(3));
        }
    }

    static void term2_feeds_ofNoFind() {
        PigNinths x = dry();
        x.farmer(0, 60);
        due(1, text(x, 0, "9*!f"));
        due(0, x.days(1));
        due(0, x.count(3));
    }

    static void term2_feeds_heldAsTold() {
        PigNinths x = dry();
        x.oak(0, 1, 35);
        x.farmer(0, 60);
        due(1, text(x, 0, "f"));
        due(35, x.days(1));
        due(0, x.count(3));
    }

    static void term2_feeds_withoutATextAgainAsFarmer() {
        PigNinths x = dry();
        x.farmer(0, 60);
        due(1, text(x, 0, "9"));
        due(0, x.ahead(1, 1));
        due(1, x.untell(0));
        due(5, x.ahead(1, 1));
    }

    static void term2_nose_namesUAndAAndH() {
        PigNinths x = new PigNinths();
        x.oak(15, 1, 999);
        x.pig(1, 9);
        due(1, text(x, 1, "u*1000+a*10+h"));
        due(999159, x.oakIs(15, 2));
        due(9, x.oakIs(0, 2));
        x.pig(1, 0);
        due(0, x.oakIs(0, 2));
    }

    static void term2_nose_anyNumber() {
        due(-1, value("0-1"));
        due(MIN, value("2048*1024*1024"));
        due(MAX, value("2048*1024*1024-1"));
    }

    static void term2_nose_theGreatestMayBeTheGreatestInt() {
        PigNinths x = dry();
        x.pig(0, 5);
        x.pig(1, 1);
        x.oak(9, 1, 1);
        // OAK 9 smells of the greatest int, the others of the least.
        due(1, text(x, 1, "2048*1024*1024-u"));
        due(MAX, x.oakIs(9, 2));
        due(MIN, x.oakIs(5, 2));
        due(1, x.days(1));
        due(9, x.count(2));
    }

    static void term2_nose_theGreatestMayBeBelow0() {
        PigNinths x = dry();
        x.pig(0, 5);
        x.pig(1, 1);
        for (int oak = 0; oak < 16; oak++) {
            x.oak(oak, 1, oak == 6 ? 3 : 9);
        }
        due(1, text(x, 1, "0-u"));
        due(3, x.days(1));
        due(6, x.count(2));
    }

    static void term2_nose_allAlikeTheLeastOak() {
        PigNinths x = dry();
        x.pig(0, 5);
        x.pig(1, 1);
        x.oak(6, 1, 99);
        due(1, text(x, 1, "0-7"));
        due(0, x.days(1));
        due(1, x.count(2));
    }

    static void term2_nose_withoutATextUAgain() {
        PigNinths x = new PigNinths();
        x.oak(3, 1, 8);
        due(8, x.oakIs(3, 2));
        due(1, text(x, 1, "0-u"));
        due(-8, x.oakIs(3, 2));
        due(1, x.untell(1));
        due(8, x.oakIs(3, 2));
    }

    static void term2_nose_leastAndGreatestUnder() {
        due(1, text(new PigNinths(), 1, "u"));
        PigNinths x = new PigNinths();
        due(1, text(x, 1, "u"));
        due(0, x.oakIs(0, 2));
        x.oak(0, 1, 999);
        due(999, x.oakIs(0, 2));
    }
}
