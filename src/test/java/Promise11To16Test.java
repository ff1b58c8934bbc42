/** The boundary cases of the promises 11 to 16: the tape, texts, days, draws. */
public final class Promise11To16Test extends Cases {
    private static final int[] NO_USES = {-1, 2, MIN, MAX};
    private static final int[] NO_DAYS = {-1, 0, 46, MIN, MAX};

    private Promise11To16Test() {
    }

    public static void main(String[] args) {
        runAll(Promise11To16Test.class);
    }

    /** Feeds until so many bytes are on THE TAPE: each is the digit 1. */
    private static void fill(PigNinths x, int bytes) {
        for (int size = x.count(8); size < bytes; size = x.count(8)) {
            x.feed(0x3131313131313131L, Math.min(8, bytes - size));
        }
    }

    // ---- promise 11: feed

    static void promise11_feed_1To8Bytes() {
        PigNinths x = new PigNinths();
        due(1, x.feed('f', 1));
        due(9, x.feed('f', 8));
        due(9, x.count(8));
    }

    static void promise11_feed_noSuchN() {
        for (int n : new int[] {-1, 0, 9, 60, MIN, MAX}) {
            refused(BEYOND, x -> x.feed(0x31313131L, n));
        }
    }

    static void promise11_feed_theLowestByteFirst() {
        PigNinths x = new PigNinths();
        // 9-8, then +700.
        due(3, x.feed(0x382d39L, 3));
        due(7, x.feed(0x3030372bL, 4));
        due(1, x.text(1));
        due(701, x.oakIs(0, 2));
    }

    static void promise11_feed_all8BytesOfAWord() {
        PigNinths x = new PigNinths();
        // 1+2+3+40, the highest byte last.
        due(8, x.feed(0x30342b332b322b31L, 8));
        due(1, x.text(1));
        due(46, x.oakIs(0, 2));
    }

    static void promise11_feed_onlyTheNLowest() {
        PigNinths x = new PigNinths();
        due(2, x.feed(0xff00003939393132L, 2));
        due(1, x.text(1));
        due(21, x.oakIs(0, 2));
    }

    static void promise11_feed_bytesAbove127HaveNoSign() {
        PigNinths x = new PigNinths();
        due(8, x.feed(-1L, 8));
        due(-10, x.text(0));
        due(1, x.feed(Long.MIN_VALUE, 1));
        due(-10, x.text(0));
        due(8, x.feed(0x8031313131313131L, 8));
        due(-14, x.text(0));
        // 1+1+1+1 and a byte of 128.
        due(8, x.feed(0x80312b312b312b31L, 8));
        due(-17, x.text(0));
    }

    static void promise11_feed_upTo60Bytes() {
        PigNinths x = new PigNinths();
        fill(x, 59);
        due(60, x.feed('1', 1));
        due(60, x.count(8));
        x = new PigNinths();
        fill(x, 52);
        due(60, x.feed('1', 8));
    }

    static void promise11_feed_aFullTape() {
        for (int n : new int[] {1, 8}) {
            refused(FULL, x -> fill(x, 60), x -> x.feed('1', n));
        }
    }

    static void promise11_feed_oneByteTooManyAndNoneComes() {
        refused(FULL, x -> fill(x, 59), x -> x.feed(0x3131L, 2));
        refused(FULL, x -> fill(x, 53), x -> x.feed(0x3131313131313131L, 8));
        PigNinths x = new PigNinths();
        fill(x, 59);
        due(FULL, x.feed(0x3131L, 2));
        due(59, x.count(8));
        due(60, x.feed('1', 1));
    }

    static void promise11_feed_beyondIsAheadOfFull() {
        for (int n : new int[] {-1, 0, 9, MIN, MAX}) {
            refused(BEYOND, x -> fill(x, 60), x -> x.feed('1', n));
        }
    }

    static void promise11_feed_emptyAgainBehindAText() {
        PigNinths x = new PigNinths();
        fill(x, 60);
        due(-14, x.text(0));
        due(8, x.feed(0L, 8));
    }

    // ---- promise 12: text

    static void promise12_text_ofBothUses() {
        PigNinths x = new PigNinths();
        due(1, text(x, 0, "f"));
        due(0, x.count(8));
        due(1, text(x, 1, "a"));
        due(0, x.count(8));
        due(9, x.oakIs(9, 2));
    }

    static void promise12_text_noSuchUseAndTheTapeStays() {
        for (int use : NO_USES) {
            // The furnished TAPE is no TEXT as yet: BEYOND is asked first.
            refused(BEYOND, x -> x.text(use));
            refused(BEYOND, x -> fill(x, 60), x -> x.text(use));
        }
    }

    static void promise12_text_noSuchUseOfAnEmptyTape() {
        PigNinths x = new PigNinths();
        due(BEYOND, x.text(2));
        due(BEYOND, x.text(-1));
        due(2, x.told(1));
    }

    static void promise12_text_anEmptyTapeIsAFaultAt0() {
        PigNinths x = new PigNinths();
        due(-10, x.text(0));
        due(-10, x.text(1));
    }

    static void promise12_text_10LessTheFault() {
        PigNinths x = new PigNinths();
        due(-10, text(x, 0, "u"));
        due(-11, text(x, 0, "f)"));
        due(-69, text(x, 0, "1+".repeat(29) + "1)"));
        due(-70, text(x, 0, "1+".repeat(30)));
    }

    static void promise12_text_aFaultIsNoError() {
        PigNinths x = new PigNinths();
        for (int i = 0; i < 5; i++) {
            due(-11, text(x, i % 2, "h)"));
        }
        for (int k = 1; k <= 6; k++) {
            due(0, x.told(k));
        }
    }

    static void promise12_text_behindAFaultTheTapeIsEmpty() {
        PigNinths x = new PigNinths();
        fill(x, 60);
        due(-14, x.text(0));
        due(0, x.count(8));
        due(1, text(x, 0, "f"));
    }

    static void promise12_text_behindAFaultTheOneAheadStays() {
        PigNinths x = new PigNinths();
        due(1, text(x, 1, "a*2"));
        due(-13, text(x, 1, "a*3)"));
        due(14, x.oakIs(7, 2));
        due(-10, x.text(1));
        due(14, x.oakIs(7, 2));
        due(1, x.untell(1));
        x = dry();
        x.farmer(0, 60);
        due(1, text(x, 0, "9"));
        due(-11, text(x, 0, "8)"));
        due(0, x.ahead(1, 1));
    }

    static void promise12_text_behindAFaultThereIsNoneStill() {
        PigNinths x = new PigNinths();
        due(-11, text(x, 0, "8)"));
        due(0, x.untell(0));
    }

    static void promise12_text_inPlaceOfTheOneAhead() {
        PigNinths x = new PigNinths();
        due(1, text(x, 1, "a*2+u+h"));
        due(1, text(x, 1, "a"));
        due(7, x.oakIs(7, 2));
        due(1, x.untell(1));
        due(0, x.untell(1));
    }

    static void promise12_text_ofOneUseTheOtherStays() {
        PigNinths x = dry();
        x.farmer(0, 60);
        due(1, text(x, 0, "9"));
        due(1, text(x, 1, "a"));
        due(0, x.ahead(1, 1));
        due(1, text(x, 0, "1"));
        due(7, x.oakIs(7, 2));
        due(8, x.ahead(1, 1));
    }

    // ---- promise 13: untell

    static void promise13_untell_1IfThereWas0IfNot() {
        PigNinths x = new PigNinths();
        for (int use = 0; use < 2; use++) {
            due(0, x.untell(use));
            due(1, text(x, use, "h"));
            due(1, x.untell(use));
            due(0, x.untell(use));
        }
    }

    static void promise13_untell_theOtherStays() {
        PigNinths x = new PigNinths();
        text(x, 0, "h");
        text(x, 1, "h");
        due(1, x.untell(0));
        due(1, x.untell(1));
        text(x, 0, "h");
        text(x, 1, "h");
        due(1, x.untell(1));
        due(1, x.untell(0));
    }

    static void promise13_untell_noSuchUse() {
        for (int use : NO_USES) {
            refused(BEYOND, x -> x.untell(use));
        }
    }

    static void promise13_untell_theTapeStays() {
        PigNinths x = new PigNinths();
        tape(x, "f");
        due(0, x.untell(0));
        due(1, x.count(8));
        due(1, x.text(0));
    }

    // ---- promise 14: days

    static void promise14_days_1And45() {
        PigNinths x = dry();
        due(0, x.days(1));
        due(1, x.count(0));
        due(0, x.days(45));
        due(46, x.count(0));
    }

    static void promise14_days_theFindsOfThemTogether() {
        PigNinths x = dry();
        x.oak(0, 1, 999);
        due(35, x.days(1));
        due(70, x.days(2));
        due(999 - 105, x.days(45));
        due(0, x.days(45));
    }

    static void promise14_days_noSuchN() {
        for (int n : NO_DAYS) {
            refused(BEYOND, x -> x.days(n));
        }
    }

    static void promise14_days_upTo9999() {
        PigNinths x = dryAt(9954);
        due(0, x.days(45));
        due(9999, x.count(0));
        x = dryAt(9998);
        due(0, x.days(1));
        due(9999, x.count(0));
    }

    static void promise14_days_above9999() {
        refused(STATE, x -> goTo(x, 9999), x -> x.days(1));
        refused(STATE, x -> goTo(x, 9999), x -> x.days(45));
        refused(STATE, x -> goTo(x, 9998), x -> x.days(2));
        refused(STATE, x -> goTo(x, 9955), x -> x.days(45));
    }

    static void promise14_days_beyondIsAheadOfState() {
        for (int n : NO_DAYS) {
            refused(BEYOND, x -> goTo(x, 9999), x -> x.days(n));
        }
    }

    // ---- promise 15: draws

    static void promise15_draws_1And45() {
        PigNinths x = dry();
        int z = 1;
        for (int i = 0; i < 46; i++) {
            z = z * 1103515245 + 12345;
        }
        x.draws(1);
        due(1, x.count(0));
        due(1103527590, x.count(11));
        x.draws(45);
        due(46, x.count(0));
        due(z, x.count(11));
        due((z >>> 8) % 10, x.count(4));
    }

    static void promise15_draws_theFindsOfThemTogether() {
        PigNinths x = dry();
        x.oak(0, 1, 999);
        due(35, x.draws(1));
        due(70, x.draws(2));
        due(105, x.count(6));
    }

    static void promise15_draws_rainIsDrawnAheadOfEachMorning() {
        // By z of 1: 4, then by 1103527590 another one.
        PigNinths x = dry();
        x.pig(1, 0);
        x.draws(1);
        due(4, x.oakIs(0, 1));
        int z = 1103527590 * 1103515245 + 12345;
        x.pig(1, 0);
        x.draws(1);
        due(4 + (z >>> 8) % 10, x.oakIs(0, 1));
    }

    static void promise15_draws_noSuchN() {
        for (int n : NO_DAYS) {
            refused(BEYOND, x -> x.draws(n));
        }
    }

    static void promise15_draws_upTo9999() {
        PigNinths x = dryAt(9954);
        x.draws(45);
        due(9999, x.count(0));
        x = dryAt(9998);
        x.draws(1);
        due(9999, x.count(0));
    }

    static void promise15_draws_above9999() {
        refused(STATE, x -> goTo(x, 9999), x -> x.draws(1));
        refused(STATE, x -> goTo(x, 9999), x -> x.draws(45));
        refused(STATE, x -> goTo(x, 9998), x -> x.draws(2));
        refused(STATE, x -> goTo(x, 9955), x -> x.draws(45));
    }

    static void promise15_draws_beyondIsAheadOfState() {
        for (int n : NO_DAYS) {
            refused(BEYOND, x -> goTo(x, 9999), x -> x.draws(n));
        }
    }

    // ---- promise 16: seed

    static void promise16_seed_anyNumber() {
        PigNinths x = new PigNinths();
        due(1, x.seed(MIN));
        due(MIN, x.seed(MAX));
        due(MAX, x.seed(-1));
        due(-1, x.seed(0));
        due(0, x.count(11));
    }

    static void promise16_seed_aNumberLikeAnErrorIsNone() {
        PigNinths x = new PigNinths();
        due(1, x.seed((int) BEYOND));
        due(BEYOND, x.count(11));
        due(BEYOND, x.seed((int) PARTED));
        due(PARTED, x.seed(1));
        due(0, x.told(1));
        due(0, x.told(6));
    }

    static void promise16_seed_rainStays() {
        PigNinths x = new PigNinths();
        x.seed(18);
        due(1, x.count(4));
        x.days(1);
        due(18, x.count(11));
    }
}
