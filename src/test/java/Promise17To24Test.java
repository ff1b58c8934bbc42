/** The boundary cases of the promises 17 to 24: what would be. */
public final class Promise17To24Test extends Cases {
    private static final int[] NO_FARMERS = {-1, 9, MIN, MAX};
    private static final int[] NO_DAYS_AHEAD = {-1, 46, MIN, MAX};
    private static final int[] NO_SHEETS = {-1, 4, MIN, MAX};
    private static final SetUp NOTHING = x -> { };

    private Promise17To24Test() {
    }

    public static void main(String[] args) {
        runAll(Promise17To24Test.class);
    }

    /** A furnished object that is only asked. */
    private static PigNinths furnished() {
        PigNinths x = new PigNinths();
        Probe.furnish(x);
        return x;
    }

    // ---- promise 17: then

    static void promise17_then_by0And45() {
        PigNinths x = dry();
        x.oak(0, 1, 999);
        due(0, x.then(0, 0, 2));
        due(0, x.then(0, 8, 2));
        due(11, x.then(1, 0, 2));
        PigNinths y = furnished();
        int[] ahead = new int[9];
        for (int farmer = 0; farmer < 9; farmer++) {
            ahead[farmer] = y.then(45, farmer, 2);
        }
        y.days(45);
        for (int farmer = 0; farmer < 9; farmer++) {
            due(y.farmerIs(farmer, 2), ahead[farmer]);
        }
        need(ahead[0] != 0);
    }

    static void promise17_then_noSuchN() {
        for (int n : NO_DAYS_AHEAD) {
            refused(BEYOND, x -> x.then(n, 0, 0));
        }
    }

    static void promise17_then_theFirstAndTheLastFarmer() {
        PigNinths x = furnished();
        due(6, x.then(45, 0, 0));
        due(0, x.then(45, 8, 0));
        due(0, x.then(45, 0, 4));
        due(8, x.then(45, 8, 4));
    }

    static void promise17_then_noSuchFarmer() {
        for (int farmer : NO_FARMERS) {
            for (int what = 0; what <= 8; what++) {
                int asked = what;
                refused(BEYOND, x -> x.then(1, farmer, asked));
            }
        }
    }

    static void promise17_then_whatFrom0To8() {
        PigNinths x = furnished();
        PigNinths y = furnished();
        y.days(9);
        for (int what = 0; what <= 8; what++) {
            due(y.farmerIs(0, what), x.then(9, 0, what));
            due(y.farmerIs(1, what), x.then(9, 1, what));
            due(y.farmerIs(8, what), x.then(9, 8, what));
        }
    }

    static void promise17_then_noSuchWhat() {
        for (int what : new int[] {-1, 9, MIN, MAX}) {
            refused(BEYOND, x -> x.then(1, 0, what));
        }
    }

    static void promise17_then_beyond9999() {
        PigNinths x = dryAt(9999);
        x.oak(0, 1, 70);
        // DAY 9999 is that of FARMER 0, the next one that of FARMER 1.
        due(11, x.then(1, 0, 2));
        due(11 + 3, x.then(2, 1, 2));
        due(11 + 3, x.then(45, 0, 2));
        due(0, x.told(3));
    }

    static void promise17_then_changesNothing() {
        looked(furnished().then(45, 0, 2), NOTHING, x -> x.then(45, 0, 2));
    }

    // ---- promise 18: ahead

    static void promise18_ahead_by0And45() {
        PigNinths x = furnished();
        PigNinths y = furnished();
        due(y.count(2), x.ahead(0, 0));
        due(y.count(3), x.ahead(0, 1));
        due(y.count(5), x.ahead(0, 2));
        due(15, x.ahead(0, 3));
        need(y.oakIs(15, 1) > y.oakIs(14, 1));
        y.days(45);
        due(y.count(2), x.ahead(45, 0));
        due(y.count(3), x.ahead(45, 1));
        due(y.count(5), x.ahead(45, 2));
        due(y.ahead(0, 3), x.ahead(45, 3));
    }

    static void promise18_ahead_noSuchN() {
        for (int n : NO_DAYS_AHEAD) {
            for (int what = 0; what <= 3; what++) {
                int asked = what;
                refused(BEYOND, x -> x.ahead(n, asked));
            }
        }
    }

    static void promise18_ahead_noSuchWhat() {
        for (int what : new int[] {-1, 4, MIN, MAX}) {
            refused(BEYOND, x -> x.ahead(1, what));
        }
    }

    static void promise18_ahead_allOaksFullTogether() {
        PigNinths x = dry();
        x.pig(1, 0);
        for (int oak = 0; oak < 16; oak++) {
            x.oak(oak, 1, 999);
        }
        due(16 * 999, x.ahead(0, 2));
        due(16 * 999, x.ahead(1, 2));
        x.rain(9);
        due(16 * 999, x.ahead(1, 2));
        due(0, dry().ahead(45, 2));
    }

    static void promise18_ahead_beyond9999() {
        PigNinths x = dryAt(9999);
        x.oak(0, 1, 70);
        due(35, x.ahead(1, 2));
        due(0, x.ahead(45, 2));
        due(0, x.told(3));
    }

    static void promise18_ahead_changesNothing() {
        looked(furnished().ahead(45, 2), NOTHING, x -> x.ahead(45, 2));
    }

    // ---- promise 19: bestLeash

    static void promise19_bestLeash_what0To4() {
        PigNinths x = dry();
        due(1, text(x, 1, "0-u"));
        x.pig(0, 3);
        x.pig(1, 4);
        for (int oak : new int[] {7, 11, 10, 6}) {
            x.oak(oak, 1, 5);
        }
        int[] is = {20, 2, 2, 3, 0};
        for (int what = 0; what <= 4; what++) {
            due(is[what], x.bestLeash(what));
        }
    }

    static void promise19_bestLeash_noSuchWhat() {
        for (int what : new int[] {-1, 5, MIN, MAX}) {
            refused(BEYOND, x -> x.bestLeash(what));
        }
    }

    static void promise19_bestLeash_changesNothing() {
        for (int what = 0; what <= 4; what++) {
            int asked = what;
            looked(furnished().bestLeash(asked), NOTHING, x -> x.bestLeash(asked));
        }
    }

    // ---- promise 20: bestFeed

    static void promise20_bestFeed_what0To2() {
        PigNinths x = dry();
        x.oak(0, 1, 999);
        int[] is = {0, 54, 0};
        for (int what = 0; what <= 2; what++) {
            due(is[what], x.bestFeed(what));
        }
    }

    static void promise20_bestFeed_noSuchWhat() {
        for (int what : new int[] {-1, 3, MIN, MAX}) {
            refused(BEYOND, x -> x.bestFeed(what));
        }
    }

    static void promise20_bestFeed_changesNothing() {
        for (int what = 0; what <= 2; what++) {
            int asked = what;
            looked(furnished().bestFeed(asked), NOTHING, x -> x.bestFeed(asked));
        }
    }

    // ---- promise 21: gain

    static void promise21_gain_theFirstAndTheLastFarmer() {
        PigNinths x = dry();
        // 35 on each of 17 DAYS, 10 on the last, which is that of FARMER 8.
        x.oak(0, 1, 35 * 17 + 10);
        int first = 2 * 11 + 15 * 3 + 1;
        int last = 11 + 16 * 3 + 2;
        due(last - first, x.gain(0, 8));
        due(first - last, x.gain(8, 0));
    }

    static void promise21_gain_oneTwice() {
        for (int farmer = 0; farmer < 9; farmer++) {
            int asked = farmer;
            refused(BEYOND, x -> x.gain(asked, asked));
        }
    }

    static void promise21_gain_noSuchFarmer() {
        for (int farmer : NO_FARMERS) {
            refused(BEYOND, x -> x.gain(farmer, 0));
            refused(BEYOND, x -> x.gain(0, farmer));
            refused(BEYOND, x -> x.gain(farmer, farmer));
        }
    }

    static void promise21_gain_below0IsNoError() {
        PigNinths x = dry();
        x.oak(0, 1, 40);
        due(-3, x.gain(0, 1));
        due(0, x.told(1));
    }

    static void promise21_gain_of0() {
        PigNinths x = dry();
        due(0, x.gain(0, 8));
    }

    static void promise21_gain_changesNothing() {
        int seen = furnished().gain(1, 7);
        looked(seen, NOTHING, x -> x.gain(1, 7));
    }

    // ---- promise 22: bestTrade

    static void promise22_bestTrade_thereIsNone() {
        refused(NONE, x -> {
            x.rain(0);
            for (int oak = 0; oak < 16; oak++) {
                x.oak(oak, 1, 0);
            }
        }, x -> x.bestTrade());
        due(NONE, dry().bestTrade());
    }

    static void promise22_bestTrade_noneWhereOneAloneWouldGain() {
        PigNinths x = dry();
        x.oak(0, 1, 40);
        due(3, x.gain(1, 0));
        due(NONE, x.bestTrade());
        due(1, x.told(2));
    }

    static void promise22_bestTrade_thereIsOne() {
        PigNinths x = dry();
        x.oak(0, 1, 500);
        x.farmer(0, 19);
        x.farmer(1, 19);
        need(x.gain(1, 2) > 0);
        need(x.gain(2, 1) > 0);
        due(12, x.bestTrade());
        due(0, x.told(2));
    }

    static void promise22_bestTrade_changesNothing() {
        int seen = furnished().bestTrade();
        need(seen > 0);
        looked(seen, NOTHING, x -> x.bestTrade());
    }

    // ---- promise 23: share

    static void promise23_share_by1And45Days() {
        PigNinths x = dry();
        x.oak(0, 1, 999);
        due(11, x.share(0, 0, 1));
        due(35, x.share(0, 1, 1));
        due(35, x.share(0, 2, 1));
        // 28 DAYS of 35 and one of 19: FARMER 0 has the DAYS 0, 9, 18, 27, FARMER 1 that of 19.
        due(4 * 35, x.share(0, 1, 45));
        due(3 * 35 + 19, x.share(1, 1, 45));
        due(999, x.share(0, 2, 45));
        due(4 * 11 + 24 * 3 + 2, x.share(0, 0, 45));
    }

    static void promise23_share_noSuchN() {
        for (int n : new int[] {-1, 0, 46, MIN, MAX}) {
            for (int law = 0; law <= 2; law++) {
                int asked = law;
                refused(BEYOND, x -> x.share(0, asked, n));
            }
        }
    }

    static void promise23_share_theFirstAndTheLastFarmer() {
        PigNinths x = dryAt(8);
        x.oak(0, 1, 35);
        due(11, x.share(8, 0, 1));
        due(35, x.share(8, 1, 1));
        due(0, x.share(8, 2, 1));
        due(3, x.share(0, 0, 1));
        due(0, x.share(0, 1, 1));
        due(35, x.share(0, 2, 1));
    }

    static void promise23_share_noSuchFarmer() {
        for (int farmer : NO_FARMERS) {
            for (int law = 0; law <= 2; law++) {
                int asked = law;
                refused(BEYOND, x -> x.share(farmer, asked, 1));
            }
        }
    }

    static void promise23_share_noSuchLaw() {
        for (int law : new int[] {-1, 3, MIN, MAX}) {
            refused(BEYOND, x -> x.share(0, law, 1));
        }
    }

    static void promise23_share_beyond9999() {
        PigNinths x = dryAt(9999);
        x.oak(0, 1, 70);
        due(11 + 3, x.share(0, 0, 45));
        due(35, x.share(1, 1, 45));
        due(70, x.share(0, 2, 45));
        due(0, x.told(3));
    }

    static void promise23_share_changesNothing() {
        for (int law = 0; law <= 2; law++) {
            int asked = law;
            looked(furnished().share(5, asked, 45), NOTHING, x -> x.share(5, asked, 45));
        }
    }

    // ---- promise 24: whoHid

    private static void tellPurses(PigNinths x, int sheet, int n) {
        x.sheet(sheet, 32, 9);
        for (int farmer = 0; farmer < 9; farmer++) {
            x.put(sheet, farmer, x.then(n, farmer, 2));
        }
    }

    static void promise24_whoHid_theFirstAndTheLastSheet() {
        PigNinths x = furnished();
        for (int sheet : new int[] {0, 3}) {
            tellPurses(x, sheet, 2);
            need((x.whoHid(sheet, 2, 0) & 2) == 2);
        }
    }

    static void promise24_whoHid_noSuchSheet() {
        for (int sheet : NO_SHEETS) {
            refused(BEYOND, x -> x.whoHid(sheet, 1, 0));
        }
    }

    static void promise24_whoHid_1And18Days() {
        PigNinths x = furnished();
        for (int n : new int[] {1, 18}) {
            tellPurses(x, 3, n);
            // FARMER 1 is a HIDER with 6.
            need((x.whoHid(3, n, 0) & 2) == 2);
        }
    }

    static void promise24_whoHid_noSuchN() {
        for (int n : new int[] {-1, 0, 19, 45, MIN, MAX}) {
            refused(BEYOND, x -> x.whoHid(0, n, 0));
        }
    }

    static void promise24_whoHid_noSuchWhat() {
        for (int what : new int[] {-1, 3, MIN, MAX}) {
            refused(BEYOND, x -> x.whoHid(0, 1, what));
        }
    }

    static void promise24_whoHid_aMissingSheet() {
        for (int what = 0; what <= 2; what++) {
            int asked = what;
            refused(NONE, x -> x.whoHid(3, 1, asked));
            refused(NONE, x -> x.sheet(0, 0, 9), x -> x.whoHid(0, 1, asked));
        }
    }

    static void promise24_whoHid_lessThanNineNumbers() {
        for (int what = 0; what <= 2; what++) {
            int asked = what;
            refused(NONE, x -> x.sheet(3, 32, 8), x -> x.whoHid(3, 1, asked));
            refused(NONE, x -> x.sheet(3, 32, 0), x -> x.whoHid(3, 1, asked));
        }
    }

    static void promise24_whoHid_nineNumbersAndMore() {
        for (int n : new int[] {9, 10, 24}) {
            PigNinths x = dry();
            x.sheet(3, 8, n);
            due(511, x.whoHid(3, 18, 0));
            due(0, x.whoHid(3, 18, 1));
            due(0, x.whoHid(3, 18, 2));
            // The ones behind the ninth don't matter.
            due(n == 9 ? BEYOND : 1, x.put(3, 9, 5));
            due(511, x.whoHid(3, 18, 0));
            x.put(3, 8, 5);
            due(0, x.whoHid(3, 18, 0));
        }
    }

    static void promise24_whoHid_nobodyAsBitsIsNoError() {
        looked(0, NOTHING, x -> x.whoHid(0, 1, 0));
    }

    static void promise24_whoHid_nobodyByWhat1And2() {
        refused(NONE, x -> x.whoHid(0, 1, 1));
        refused(NONE, x -> x.whoHid(0, 1, 2));
    }

    static void promise24_whoHid_beyondIsAheadOfNone() {
        // Of a missing SHEET, one that is too short, one that nobody explains.
        for (int sheet : new int[] {3, 1, 0}) {
            refused(BEYOND, x -> x.whoHid(sheet, 0, 1));
            refused(BEYOND, x -> x.whoHid(sheet, 19, 1));
            refused(BEYOND, x -> x.whoHid(sheet, 1, 3));
            refused(BEYOND, x -> x.whoHid(sheet, 1, -1));
        }
    }

    static void promise24_whoHid_changesNothing() {
        SetUp told = x -> tellPurses(x, 3, 3);
        PigNinths x = furnished();
        told.on(x);
        for (int what = 0; what <= 2; what++) {
            int asked = what;
            looked(x.whoHid(3, 3, asked), told, y -> y.whoHid(3, 3, asked));
        }
    }
}
