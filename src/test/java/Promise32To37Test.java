/** The boundary cases of the promises 32 to 37: images, what waits, what is counted and told. */
public final class Promise32To37Test extends Cases {
    private static final SetUp NOTHING = x -> { };

    private Promise32To37Test() {
    }

    public static void main(String[] args) {
        runAll(Promise32To37Test.class);
    }

    private static PigNinths furnished() {
        PigNinths x = new PigNinths();
        Probe.furnish(x);
        return x;
    }

    private static void waits(PigNinths x, int n) {
        x.check();
        for (int i = 0; i < n; i++) {
            due(i + 1, x.tell(i));
        }
    }

    // ---- promise 32: image

    static void promise32_image_howOftenThatWasDone() {
        PigNinths x = new PigNinths();
        for (int i = 1; i <= 50; i++) {
            due(i, x.image());
        }
    }

    static void promise32_image_howOftenIsNotOfTheImage() {
        PigNinths x = new PigNinths();
        due(1, x.image());
        due(2, x.image());
        due(0, x.restore());
        due(3, x.image());
    }

    static void promise32_image_ofANewObject() {
        PigNinths x = new PigNinths();
        due(1, x.image());
        Probe.furnish(x);
        // furnish() keeps another one.
        due(3, x.image());
        x = new PigNinths();
        x.image();
        x.oak(3, 1, 5);
        x.rain(7);
        tape(x, "f");
        x.tell(4);
        due(0, x.restore());
        due(0, x.count(5));
        due(1, x.count(4));
        due(0, x.count(8));
        due(0, x.count(9));
    }

    static void promise32_image_inPlaceOfTheOneAhead() {
        PigNinths x = dry();
        x.image();
        x.oak(3, 1, 5);
        x.image();
        x.oak(3, 1, 6);
        due(0, x.restore());
        due(5, x.oakIs(3, 1));
    }

    static void promise32_image_keepsTheWoodTheFarmersAndThePig() {
        PigNinths x = furnished();
        PigNinths y = furnished();
        x.image();
        y.image();
        for (int oak = 0; oak < 16; oak++) {
            x.oak(oak, 0, 1);
            x.oak(oak, 1, 1);
        }
        for (int farmer = 0; farmer < 9; farmer++) {
            x.farmer(farmer, 33);
            for (int i = 0; i < 4; i++) {
                x.leash(farmer, i, 1);
            }
        }
        x.trade(0, 8);
        x.trade(1, 7);
        x.rain(9);
        x.draws(5);
        x.pig(0, 3);
        x.pig(1, 2);
        due(y.count(0), x.restore());
        for (int what = 0; what < 12; what++) {
            due(y.count(what), x.count(what));
        }
        for (int oak = 0; oak < 16; oak++) {
            for (int what = 0; what < 3; what++) {
                due(y.oakIs(oak, what), x.oakIs(oak, what));
            }
        }
        for (int farmer = 0; farmer < 9; farmer++) {
            for (int what = 0; what < 9; what++) {
                due(y.farmerIs(farmer, what), x.farmerIs(farmer, what));
            }
        }
    }

    static void promise32_image_keepsTexts() {
        PigNinths x = dry();
        x.farmer(0, 60);
        text(x, 0, "9");
        text(x, 1, "a");
        x.image();
        text(x, 0, "1");
        text(x, 1, "a*2");
        x.restore();
        due(0, x.ahead(1, 1));
        due(7, x.oakIs(7, 2));
        x.untell(0);
        x.untell(1);
        x.restore();
        due(0, x.ahead(1, 1));
        due(1, x.untell(0));
        due(1, x.untell(1));
    }

    static void promise32_image_keepsThatThereIsNoText() {
        PigNinths x = new PigNinths();
        x.image();
        text(x, 0, "1");
        text(x, 1, "a*2");
        x.restore();
        due(0, x.untell(0));
        due(0, x.untell(1));
    }

    static void promise32_image_keepsTheTape() {
        PigNinths x = new PigNinths();
        tape(x, "a*");
        x.image();
        tape(x, "9)");
        due(-13, x.text(1));
        x.restore();
        due(2, x.count(8));
        tape(x, "2");
        due(1, x.text(1));
        due(14, x.oakIs(7, 2));
    }

    static void promise32_image_keepsAFullTapeAndAnEmptyOne() {
        PigNinths x = new PigNinths();
        tape(x, "1+".repeat(29) + "11");
        x.image();
        due(1, x.text(0));
        x.restore();
        due(60, x.count(8));
        due(FULL, x.feed('1', 1));
        due(1, x.text(1));
        due(40, x.oakIs(0, 2));
        x.image();
        tape(x, "f");
        x.restore();
        due(0, x.count(8));
    }

    static void promise32_image_keepsWhatWaits() {
        PigNinths x = dry();
        x.oak(0, 1, 50);
        x.tell(35);
        x.tell(15);
        x.image();
        x.check();
        x.tell(1);
        x.tell(2);
        x.tell(3);
        x.restore();
        due(2, x.count(9));
        due(0, x.check());
        x.restore();
        due(3, x.tell(1));
        due(3, x.check());
    }

    static void promise32_image_keepsAFullWaitingListAndAnEmptyOne() {
        PigNinths x = dry();
        waits(x, 24);
        x.image();
        x.check();
        x.restore();
        due(24, x.count(9));
        due(FULL, x.tell(0));
        x.check();
        x.image();
        x.tell(5);
        x.restore();
        due(0, x.count(9));
        due(0, x.check());
    }

    static void promise32_image_keepsZ() {
        PigNinths x = new PigNinths();
        x.seed(MIN);
        x.image();
        x.seed(5);
        x.restore();
        due(MIN, x.count(11));
    }

    static void promise32_image_changesNothingElse() {
        PigNinths x = furnished();
        PigNinths y = furnished();
        due(2, x.image());
        need(Probe.NOW.answers(x).equals(Probe.NOW.answers(y)));
    }

    // ---- promise 33: restore

    static void promise33_restore_thereIsNone() {
        PigNinths x = new PigNinths();
        x.oak(3, 1, 5);
        x.tell(4);
        tape(x, "f");
        due(NONE, x.restore());
        due(NONE, x.restore());
        due(2, x.told(2));
        due(5, x.oakIs(3, 1));
        due(1, x.count(9));
        due(1, x.count(8));
        due(1, x.image());
    }

    static void promise33_restore_theDayOfTheImage() {
        PigNinths x = dry();
        x.image();
        x.days(45);
        due(0, x.restore());
        due(0, x.count(0));
        goTo(x, 9999);
        x.image();
        due(9999, x.restore());
        due(STATE, x.days(1));
    }

    static void promise33_restore_theDaysGoOnFromThere() {
        PigNinths x = dryAt(9954);
        x.image();
        due(0, x.days(45));
        due(STATE, x.days(1));
        due(9954, x.restore());
        due(0, x.days(45));
    }

    static void promise33_restore_theImageStays() {
        PigNinths x = dry();
        x.oak(3, 1, 5);
        x.image();
        for (int i = 0; i < 3; i++) {
            x.oak(3, 1, 9);
            x.days(2);
            due(0, x.restore());
            due(5, x.oakIs(3, 1));
        }
    }

    static void promise33_restore_sheetsStay() {
        PigNinths x = new PigNinths();
        sheetOf(x, 0, 8, 5);
        sheetOf(x, 1, 8, 7);
        x.image();
        x.put(0, 0, 6);
        x.sheet(1, 0, 0);
        x.sheet(2, 8, 1);
        x.restore();
        lie(x, 0, 6);
        due(NONE, x.unders(1));
        due(1, x.unders(2));
    }

    static void promise33_restore_theTraceStays() {
        PigNinths x = new PigNinths();
        x.voice(1, 0, 1);
        x.image();
        x.voice(1, 1, 1);
        x.restore();
        trace(x, 11, 10);
    }

    static void promise33_restore_whatToldTellsStays() {
        PigNinths x = new PigNinths();
        x.rain(-1);
        x.image();
        x.rain(-1);
        x.body(0);
        x.restore();
        due(2, x.told(1));
        due(1, x.told(2));
    }

    // ---- promise 34: tell

    static void promise34_tell_24Wait() {
        PigNinths x = new PigNinths();
        for (int i = 1; i <= 24; i++) {
            due(i, x.tell(i));
            due(i, x.count(9));
        }
    }

    static void promise34_tell_the25thIsFull() {
        for (int v : new int[] {0, 35, MIN, MAX}) {
            refused(FULL, x -> waits(x, 24), x -> x.tell(v));
        }
    }

    static void promise34_tell_the25thComesInPlaceOfNone() {
        for (int v : new int[] {0, -1, 7}) {
            PigNinths x = furnished();
            rightFinds(x, 24);
            due(FULL, x.tell(v));
            due(24, x.count(9));
            due(0, x.check());
        }
    }

    static void promise34_tell_the24thIsNot() {
        PigNinths x = new PigNinths();
        waits(x, 23);
        due(24, x.tell(7));
        due(0, x.told(4));
        due(FULL, x.tell(7));
        due(1, x.told(4));
    }

    static void promise34_tell_againBehindACheck() {
        PigNinths x = new PigNinths();
        waits(x, 24);
        due(FULL, x.tell(0));
        x.check();
        due(1, x.tell(0));
    }

    static void promise34_tell_anyNumber() {
        PigNinths x = new PigNinths();
        due(1, x.tell(MIN));
        due(2, x.tell(-1));
        due(3, x.tell(MAX));
        due(1, x.check());
    }

    // ---- promise 35: check

    /** The FINDS of so many DAYS AHEAD, one behind the other, come to wait. */
    private static int[] rightFinds(PigNinths x, int n) {
        int[] finds = new int[n];
        x.check();
        x.image();
        for (int i = 0; i < n; i++) {
            finds[i] = x.days(1);
        }
        x.restore();
        for (int find : finds) {
            x.tell(find);
        }
        return finds;
    }

    static void promise35_check_whereNoneWaits() {
        PigNinths x = new PigNinths();
        due(0, x.check());
        due(0, x.check());
    }

    static void promise35_check_oneThatIsSoAndOneThatIsnt() {
        PigNinths x = dry();
        x.oak(0, 1, 99);
        x.tell(35);
        due(0, x.check());
        x.tell(34);
        due(1, x.check());
        x.tell(36);
        due(1, x.check());
    }

    static void promise35_check_24ThatAreSo() {
        PigNinths x = furnished();
        rightFinds(x, 24);
        due(24, x.count(9));
        due(0, x.check());
    }

    static void promise35_check_theFirstThatIsntSo() {
        for (int i : new int[] {0, 1, 22, 23}) {
            PigNinths x = furnished();
            int[] finds = rightFinds(x, 24);
            x.check();
            for (int j = 0; j < 24; j++) {
                x.tell(j == i || j == 23 ? finds[j] + 1 : finds[j]);
            }
            due(1 + i, x.check());
        }
    }

    static void promise35_check_noneWaitThen() {
        PigNinths x = dry();
        x.tell(0);
        due(0, x.check());
        due(0, x.count(9));
        x.tell(5);
        x.tell(5);
        due(1, x.check());
        due(0, x.count(9));
        due(0, x.check());
        due(1, x.tell(0));
    }

    static void promise35_check_beyond9999() {
        PigNinths x = dryAt(9999);
        x.oak(0, 1, 40);
        x.tell(35);
        x.tell(5);
        x.tell(0);
        due(0, x.check());
        due(9999, x.count(0));
        due(0, x.told(3));
    }

    static void promise35_check_changesNothingElse() {
        PigNinths x = furnished();
        PigNinths y = furnished();
        due(0, x.check());
        y.check();
        due(0, x.check());
        need(Probe.NOW.answers(x).equals(Probe.NOW.answers(y)));
        due(2, furnished().count(9));
        due(5, x.count(0));
    }

    // ---- promise 36: count

    static void promise36_count_what0To11() {
        PigNinths x = dry();
        x.oak(0, 1, 70);
        x.oak(15, 1, 30);
        x.farmer(0, 37);
        x.farmer(1, 37);
        x.days(2);
        x.seed(-5);
        x.rain(3);
        x.pig(0, 6);
        x.pig(1, 8);
        tape(x, "abc");
        x.tell(1);
        x.tell(1);
        x.voice(0, 2, 0);
        int[] is = {2, 2, 6, 8, 3, 30, 70, 54, 3, 2, 4, -5};
        for (int what = 0; what < 12; what++) {
            due(is[what], x.count(what));
        }
    }

    static void promise36_count_noSuchWhat() {
        for (int what : new int[] {-1, 12, MIN, MAX}) {
            refused(BEYOND, x -> x.count(what));
        }
    }

    static void promise36_count_zIsAnyNumber() {
        PigNinths x = new PigNinths();
        for (int z : new int[] {MIN, (int) PARTED, (int) BEYOND, -1, 0, MAX}) {
            x.seed(z);
            due(z, x.count(11));
        }
        for (int k = 1; k <= 6; k++) {
            due(0, x.told(k));
        }
    }

    static void promise36_count_allOaksEmptyAndFull() {
        PigNinths x = new PigNinths();
        due(0, x.count(5));
        for (int oak = 0; oak < 16; oak++) {
            x.oak(oak, 1, 999);
        }
        due(16 * 999, x.count(5));
    }

    static void promise36_count_whoHasItOnTheLastDay() {
        PigNinths x = dryAt(9998);
        due(8, x.count(1));
        x.days(1);
        due(0, x.count(1));
        due(9999, x.count(0));
    }

    static void promise36_count_bytesFrom0To60() {
        PigNinths x = new PigNinths();
        due(0, x.count(8));
        for (int i = 1; i <= 60; i++) {
            x.feed('f', 1);
            due(i, x.count(8));
        }
        x.feed('f', 1);
        due(60, x.count(8));
    }

    static void promise36_count_numbersThatWaitFrom0To24() {
        PigNinths x = new PigNinths();
        due(0, x.count(9));
        waits(x, 24);
        due(24, x.count(9));
        x.tell(0);
        due(24, x.count(9));
    }

    static void promise36_count_changesNothing() {
        looked(5, NOTHING, x -> x.count(0));
    }

    // ---- promise 37: told

    static void promise37_told_ofANewObject() {
        PigNinths x = new PigNinths();
        for (int k = 1; k <= 6; k++) {
            due(0, x.told(k));
        }
    }

    static void promise37_told_eachErrorOnce() {
        Call[] calls = {
            x -> x.rain(10), x -> x.body(0), x -> x.sheet(0, 8, -1), x -> x.tell(0), x -> x.as(0, 1),
            x -> x.voice(0, 3, 0),
        };
        for (int k = 1; k <= 6; k++) {
            PigNinths x = new PigNinths();
            waits(x, 24);
            due(LOW - k, calls[k - 1].on(x));
            for (int other = 1; other <= 6; other++) {
                due(other == k ? 1 : 0, x.told(other));
            }
            due(LOW - k, calls[k - 1].on(x));
            due(2, x.told(k));
        }
    }

    static void promise37_told_anotherK() {
        for (int k : new int[] {-1, 0, 7, MIN, MAX}) {
            refused(BEYOND, x -> x.told(k));
        }
    }

    static void promise37_told_anotherKIsCountedToo() {
        PigNinths x = new PigNinths();
        due(BEYOND, x.told(0));
        due(1, x.told(1));
        due(BEYOND, x.told(7));
        due(2, x.told(1));
        due(2, x.told(1));
    }

    static void promise37_told_whatIsNoErrorIsNotCounted() {
        PigNinths x = new PigNinths();
        // A FAULT, a number that oak() would refuse, nobody as bits, what isn't so, a GAIN below 0.
        due(-10, x.text(0));
        sheetOf(x, 0, 32, -1, 0, 0, 0, 0, 0, 0, 0, 0);
        due(0, x.unders(0));
        due(0, x.whoHid(0, 1, 0));
        x.tell(-1);
        due(1, x.check());
        due(0, x.judge(0));
        for (int k = 1; k <= 6; k++) {
            due(0, x.told(k));
        }
    }

    static void promise37_told_changesNothing() {
        looked(1, NOTHING, x -> x.told(2));
    }

    static void promise37_told_of511Errors() {
        PigNinths x = new PigNinths();
        for (int i = 0; i < 511; i++) {
            due(NONE, x.body(i));
        }
        due(511, x.told(2));
    }

    static void promise37_told_oneErrorACall() {
        // More than one argument is wrong: it is one act still.
        PigNinths x = new PigNinths();
        due(BEYOND, x.oak(-1, -1, -1));
        due(BEYOND, x.move(-1, -1, -1, -1, -1));
        due(BEYOND, x.whoHid(-1, -1, -1));
        due(3, x.told(1));
    }
}
