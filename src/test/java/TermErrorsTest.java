/** The boundary cases of the term ERRORS. */
public final class TermErrorsTest extends Cases {
    private TermErrorsTest() {
    }

    public static void main(String[] args) {
        runAll(TermErrorsTest.class);
    }

    static void termErrors_beyondIsLowLess1() {
        due(-1000000001L, new PigNinths().rain(10));
    }

    static void termErrors_noneIsLowLess2() {
        due(-1000000002L, new PigNinths().body(0));
    }

    static void termErrors_stateIsLowLess3() {
        due(-1000000003L, new PigNinths().sheet(0, 8, -1));
    }

    static void termErrors_fullIsLowLess4() {
        PigNinths x = new PigNinths();
        for (int i = 0; i < 24; i++) {
            x.tell(0);
        }
        due(-1000000004L, x.tell(0));
    }

    static void termErrors_kindIsLowLess5() {
        due(-1000000005L, new PigNinths().as(0, 1));
    }

    static void termErrors_partedIsLowLess6() {
        due(-1000000006L, new PigNinths().voice(0, 3, 1));
    }

    static void termErrors_aWordOfFeedGivesAnErrorAsAnInt() {
        // feed() takes a long: its ERRORS are the same numbers.
        long answer = new PigNinths().feed(Long.MIN_VALUE, 0);
        due(-1000000001L, answer);
    }

    static void termErrors_lowItselfIsNone() {
        PigNinths x = new PigNinths();
        due(1, text(x, 1, "0-1000*1000*1000"));
        due(LOW, x.oakIs(0, 2));
        x.seed((int) LOW);
        due(LOW, x.seed(1));
        for (int k = 1; k <= 6; k++) {
            due(0, x.told(k));
        }
    }

    static void termErrors_firstBelowLowIsCounted() {
        PigNinths x = new PigNinths();
        due(LOW - 1, x.rain(-1));
        due(1, x.told(1));
    }

    static void termErrors_quotientOfATextIsCutToward0() {
        PigNinths x = new PigNinths();
        String[] texts = {"(0-1)/2", "(0-7)/2", "7/(0-2)", "(0-7)/(0-2)", "7/2", "1/2"};
        int[] values = {0, -3, -3, 3, 3, 0};
        for (int i = 0; i < texts.length; i++) {
            due(1, text(x, 1, texts[i]));
            due(values[i], x.oakIs(0, 2));
        }
    }

    static void termErrors_quotientOfPartsIsCutToward0() {
        PigNinths x = new PigNinths();
        x.farmer(0, 2);
        due(-3, x.voice(0, 3, -7));
        due(0, x.voice(0, 3, -1));
        due(0, x.voice(0, 3, 1));
        due(3, x.voice(0, 3, 7));
        // k is 8, m is 6: by -2.
        x.farmer(8, 6);
        due(-3, x.voice(8, 3, 7));
        due(3, x.voice(8, 3, -7));
    }

    static void termErrors_quotientOfAHidersVoiceIsCutToward0() {
        PigNinths x = new PigNinths();
        x.farmer(0, 30);
        // hides(x / 2): twice of that, less m.
        due(0, x.voice(0, 2, -1));
        due(-2, x.voice(0, 2, -3));
        due(2, x.voice(0, 2, 3));
    }

    static void termErrors_quotientOfANinthIsCut() {
        PigNinths x = dry();
        x.oak(0, 1, 17);
        due(17, x.days(1));
        due(1, x.farmerIs(1, 2));
        due(9, x.farmerIs(0, 2));
    }

    static void termErrors_quotientOfWhatAHiderHidesIsCut() {
        PigNinths x = dry();
        x.farmer(0, 32);
        x.oak(0, 1, 4);
        due(4, x.days(1));
        due(0, x.farmerIs(0, 3));
        x = dry();
        x.farmer(0, 32);
        x.oak(0, 1, 5);
        due(5, x.days(1));
        due(1, x.farmerIs(0, 3));
    }

    static void termErrors_quotientOfTheHalfOfMIsCut() {
        int[] hungers = {5, 5, 6, 6, 7, 7, 8, 8, 9, 9};
        for (int m = 0; m <= 9; m++) {
            PigNinths x = dry();
            x.farmer(0, 10 + m);
            x.days(1);
            due(hungers[m], x.count(3));
        }
    }
}
