/** The boundary cases of the promises 1 to 10: a new object, the wood, the farmers, the pig. */
public final class Promise01To10Test extends Cases {
    private static final int[] NO_OAKS = {-1, 16, MIN, MAX};
    private static final int[] NO_FARMERS = {-1, 9, MIN, MAX};
    private static final SetUp NOTHING = x -> { };

    private Promise01To10Test() {
    }

    public static void main(String[] args) {
        runAll(Promise01To10Test.class);
    }

    // ---- promise 1: a new object

    static void promise01_new_countsAsAtFirst() {
        PigNinths x = new PigNinths();
        int[] counts = {0, 0, 0, 5, 1, 0, 0, 0, 0, 0, 0, 1};
        for (int what = 0; what < counts.length; what++) {
            due(counts[what], x.count(what));
        }
    }

    static void promise01_new_eachOakAsAtFirst() {
        PigNinths x = new PigNinths();
        for (int oak = 0; oak < 16; oak++) {
            due(oak % 9, x.oakIs(oak, 0));
            due(0, x.oakIs(oak, 1));
            due(0, x.oakIs(oak, 2));
        }
    }

    static void promise01_new_eachFarmerAsAtFirst() {
        PigNinths x = new PigNinths();
        for (int farmer = 0; farmer < 9; farmer++) {
            int[] is = {0, 0, 0, 0, farmer, 4, 4, 4, 4};
            for (int what = 0; what < is.length; what++) {
                due(is[what], x.farmerIs(farmer, what));
            }
        }
    }

    static void promise01_new_theTapeIsEmpty() {
        PigNinths x = new PigNinths();
        due(0, x.count(8));
        due(-10, x.text(0));
        due(-10, x.text(1));
        due(1, x.feed('f', 1));
    }

    static void promise01_new_noTexts() {
        PigNinths x = new PigNinths();
        due(0, x.untell(0));
        due(0, x.untell(1));
    }

    static void promise01_new_nothingWaits() {
        PigNinths x = new PigNinths();
        due(0, x.count(9));
        due(0, x.check());
        due(1, x.tell(0));
    }

    static void promise01_new_theTraceIsEmpty() {
        PigNinths x = new PigNinths();
        due(0, x.count(10));
        due(NONE, x.body(0));
    }

    static void promise01_new_sheetsAreMissing() {
        PigNinths x = new PigNinths();
        for (int sheet = 0; sheet < 4; sheet++) {
            due(NONE, x.unders(sheet));
        }
    }

    static void promise01_new_noImage() {
        PigNinths x = new PigNinths();
        due(NONE, x.restore());
        due(1, x.image());
    }

    static void promise01_new_noErrorsAreTold() {
        PigNinths x = new PigNinths();
        for (int k = 1; k <= 6; k++) {
            due(0, x.told(k));
        }
    }

    static void promise01_new_ofTwoObjectsEachIsItsOwn() {
        for (Probe probe : Probe.values()) {
            PigNinths ahead = new PigNinths();
            PigNinths other = new PigNinths();
            Probe.furnish(other);
            PigNinths behind = new PigNinths();
            need(probe.answers(ahead).equals(probe.answers(behind)));
            need(!probe.answers(new PigNinths()).equals(probe.answers(other)));
        }
    }

    static void promise01_new_its512thCallIsAnswered() {
        PigNinths x = new PigNinths();
        for (int i = 1; i <= 510; i++) {
            due(i, x.image());
        }
        due(5, x.days(1));
        due(1, x.count(0));
    }

    // ---- promise 2: oak

    static void promise02_oak_theFirstAndTheLastOak() {
        PigNinths x = new PigNinths();
        for (int oak : new int[] {0, 15}) {
            due(oak % 9, x.oak(oak, 0, 4));
            due(4, x.oakIs(oak, 0));
            due(0, x.oak(oak, 1, 7));
            due(7, x.oakIs(oak, 1));
        }
        due(1, x.oakIs(1, 0));
        due(0, x.oakIs(1, 1));
        due(0, x.oakIs(14, 1));
    }

    static void promise02_oak_noSuchOak() {
        for (int oak : NO_OAKS) {
            refused(BEYOND, x -> x.oak(oak, 0, 1));
            refused(BEYOND, x -> x.oak(oak, 1, 1));
        }
    }

    static void promise02_oak_noSuchWhat() {
        for (int what : new int[] {-1, 2, MIN, MAX}) {
            refused(BEYOND, x -> x.oak(0, what, 1));
        }
    }

    static void promise02_oak_ownerFrom0To8() {
        PigNinths x = new PigNinths();
        due(3, x.oak(3, 0, 0));
        due(0, x.oak(3, 0, 8));
        due(8, x.oak(3, 0, 8));
        due(8, x.oakIs(3, 0));
    }

    static void promise02_oak_noSuchOwner() {
        for (int v : new int[] {-1, 9, 999, MIN, MAX}) {
            refused(BEYOND, x -> x.oak(3, 0, v));
        }
    }

    static void promise02_oak_underFrom0To999() {
        PigNinths x = new PigNinths();
        due(0, x.oak(3, 1, 999));
        due(999, x.oak(3, 1, 0));
        due(0, x.oak(3, 1, 9));
        due(9, x.oakIs(3, 1));
    }

    static void promise02_oak_noSuchUnder() {
        for (int v : new int[] {-1, 1000, MIN, MAX}) {
            refused(BEYOND, x -> x.oak(3, 1, v));
        }
    }

    // ---- promise 3: oakIs

    static void promise03_oakIs_theFirstAndTheLastOak() {
        PigNinths x = new PigNinths();
        x.oak(0, 0, 5);
        x.oak(15, 0, 7);
        x.oak(0, 1, 50);
        x.oak(15, 1, 70);
        due(5, x.oakIs(0, 0));
        due(50, x.oakIs(0, 1));
        due(50, x.oakIs(0, 2));
        due(7, x.oakIs(15, 0));
        due(70, x.oakIs(15, 1));
        due(70, x.oakIs(15, 2));
    }

    static void promise03_oakIs_noSuchOak() {
        for (int oak : NO_OAKS) {
            for (int what = 0; what <= 2; what++) {
                int asked = what;
                refused(BEYOND, x -> x.oakIs(oak, asked));
            }
        }
    }

    static void promise03_oakIs_noSuchWhat() {
        for (int what : new int[] {-1, 3, MIN, MAX}) {
            refused(BEYOND, x -> x.oakIs(0, what));
        }
    }

    static void promise03_oakIs_changesNothing() {
        looked(8, NOTHING, x -> x.oakIs(2, 0));
        looked(500, x -> x.oak(5, 1, 500), x -> x.oakIs(5, 1));
    }

    // ---- promise 4: rain

    static void promise04_rain_from0To9() {
        PigNinths x = new PigNinths();
        due(1, x.rain(0));
        due(0, x.rain(9));
        due(9, x.rain(9));
        due(9, x.count(4));
    }

    static void promise04_rain_below0AndAbove9() {
        for (int v : new int[] {-1, 10, MIN, MAX}) {
            refused(BEYOND, x -> x.rain(v));
        }
    }

    // ---- promise 5: farmer

    static void promise05_farmer_theFirstAndTheLastFarmer() {
        PigNinths x = new PigNinths();
        due(0, x.farmer(0, 12));
        due(0, x.farmer(8, 34));
        due(12, x.farmer(0, 0));
        due(34, x.farmer(8, 0));
        due(0, x.farmer(1, 0));
        due(0, x.farmer(7, 0));
    }

    static void promise05_farmer_noSuchFarmer() {
        for (int farmer : NO_FARMERS) {
            refused(BEYOND, x -> x.farmer(farmer, 12));
        }
    }

    static void promise05_farmer_kmFrom0To69() {
        PigNinths x = new PigNinths();
        due(0, x.farmer(4, 69));
        due(6, x.farmerIs(4, 0));
        due(9, x.farmerIs(4, 1));
        due(69, x.farmer(4, 0));
        due(0, x.farmerIs(4, 0));
        due(0, x.farmerIs(4, 1));
    }

    static void promise05_farmer_kmBetweenTwoKinds() {
        PigNinths x = new PigNinths();
        for (int kind = 0; kind < 7; kind++) {
            x.farmer(4, 10 * kind + 9);
            due(kind, x.farmerIs(4, 0));
            due(9, x.farmerIs(4, 1));
            due(10 * kind + 9, x.farmer(4, 10 * kind));
            due(kind, x.farmerIs(4, 0));
            due(0, x.farmerIs(4, 1));
        }
    }

    static void promise05_farmer_noSuchKm() {
        for (int km : new int[] {-1, 70, 79, -10, MIN, MAX}) {
            refused(BEYOND, x -> x.farmer(4, km));
        }
    }

    static void promise05_farmer_purseAndTurnStay() {
        PigNinths x = dry();
        x.oak(0, 1, 35);
        x.farmer(0, 39);
        x.days(1);
        due(39, x.farmer(0, 0));
        due(35, x.farmerIs(0, 2));
        due(35, x.farmerIs(0, 3));
        due(0, x.farmerIs(0, 4));
    }

    // ---- promise 6: farmerIs

    static void promise06_farmerIs_theFirstAndTheLastFarmer() {
        PigNinths x = new PigNinths();
        x.farmer(0, 12);
        x.farmer(8, 34);
        due(1, x.farmerIs(0, 0));
        due(2, x.farmerIs(0, 1));
        due(3, x.farmerIs(8, 0));
        due(4, x.farmerIs(8, 1));
        due(0, x.farmerIs(0, 4));
        due(8, x.farmerIs(8, 4));
    }

    static void promise06_farmerIs_theFirstAndTheLastWay() {
        PigNinths x = new PigNinths();
        for (int farmer : new int[] {0, 8}) {
            for (int i = 0; i < 4; i++) {
                x.leash(farmer, i, (i + farmer) % 4);
            }
            for (int i = 0; i < 4; i++) {
                due((i + farmer) % 4, x.farmerIs(farmer, 5 + i));
            }
        }
        due(4, x.farmerIs(1, 5));
        due(4, x.farmerIs(7, 8));
    }

    static void promise06_farmerIs_noSuchFarmer() {
        for (int farmer : NO_FARMERS) {
            for (int what = 0; what <= 8; what++) {
                int asked = what;
                refused(BEYOND, x -> x.farmerIs(farmer, asked));
            }
        }
    }

    static void promise06_farmerIs_noSuchWhat() {
        for (int what : new int[] {-1, 9, MIN, MAX}) {
            refused(BEYOND, x -> x.farmerIs(0, what));
        }
    }

    static void promise06_farmerIs_changesNothing() {
        looked(7, NOTHING, x -> x.farmerIs(2, 4));
    }

    // ---- promise 7: as

    static void promise07_as_ofItsKindAndOfThoseAbove() {
        int[][] above = {{0}, {1, 0}, {2, 0}, {3, 0}, {4, 1, 0}, {5, 2, 0}, {6, 0}};
        for (int kind = 0; kind < 7; kind++) {
            PigNinths x = new PigNinths();
            x.farmer(8, 10 * kind + 9);
            for (int asked : above[kind]) {
                due(9, x.as(8, asked));
            }
            int seen = 0;
            for (int asked = 0; asked < 7; asked++) {
                seen += x.as(8, asked) == 9 ? 1 : 0;
            }
            due(above[kind].length, seen);
        }
    }

    static void promise07_as_leastAndGreatestM() {
        PigNinths x = new PigNinths();
        due(0, x.as(0, 0));
        x.farmer(0, 69);
        due(9, x.as(0, 6));
    }

    static void promise07_as_noSuchFarmer() {
        for (int farmer : NO_FARMERS) {
            refused(BEYOND, x -> x.as(farmer, 0));
        }
    }

    static void promise07_as_noSuchKind() {
        for (int kind : new int[] {-1, 7, MIN, MAX}) {
            refused(BEYOND, x -> x.as(0, kind));
        }
    }

    static void promise07_as_aKindUnderItIsNotIts() {
        for (int kind = 1; kind < 7; kind++) {
            int asked = kind;
            refused(KIND, x -> x.farmer(8, 5), x -> x.as(8, asked));
        }
        refused(KIND, x -> x.farmer(8, 15), x -> x.as(8, 4));
        refused(KIND, x -> x.farmer(8, 25), x -> x.as(8, 5));
    }

    static void promise07_as_aKindBesideItIsNotIts() {
        refused(KIND, x -> x.farmer(8, 15), x -> x.as(8, 2));
        refused(KIND, x -> x.farmer(8, 45), x -> x.as(8, 2));
        refused(KIND, x -> x.farmer(8, 55), x -> x.as(8, 1));
        refused(KIND, x -> x.farmer(8, 65), x -> x.as(8, 3));
        refused(KIND, x -> x.farmer(8, 35), x -> x.as(8, 6));
    }

    static void promise07_as_beyondIsAheadOfKind() {
        // No FARMER is of KIND 7, and there is no FARMER 9 of any KIND.
        refused(BEYOND, x -> x.as(8, 7));
        refused(BEYOND, x -> x.as(9, 6));
        refused(BEYOND, x -> x.as(9, 7));
    }

    static void promise07_as_changesNothing() {
        looked(5, NOTHING, x -> x.as(2, 1));
    }

    // ---- promise 8: trade

    static void promise08_trade_theFirstAndTheLastFarmer() {
        PigNinths x = new PigNinths();
        due(8, x.trade(0, 8));
        due(8, x.farmerIs(0, 4));
        due(0, x.farmerIs(8, 4));
        due(8, x.trade(8, 0));
        due(0, x.farmerIs(0, 4));
        due(8, x.farmerIs(8, 4));
    }

    static void promise08_trade_oneTwice() {
        looked(7, NOTHING, x -> x.trade(2, 2));
        looked(0, NOTHING, x -> x.trade(0, 0));
        looked(8, NOTHING, x -> x.trade(8, 8));
    }

    static void promise08_trade_noSuchFarmer() {
        for (int farmer : NO_FARMERS) {
            refused(BEYOND, x -> x.trade(farmer, 3));
            refused(BEYOND, x -> x.trade(3, farmer));
            refused(BEYOND, x -> x.trade(farmer, farmer));
        }
    }

    // ---- promise 9: leash

    static void promise09_leash_theFirstAndTheLastWay() {
        PigNinths x = new PigNinths();
        for (int farmer : new int[] {0, 8}) {
            due(4, x.leash(farmer, 0, 1));
            due(4, x.leash(farmer, 3, 2));
            due(1, x.farmerIs(farmer, 5));
            due(4, x.farmerIs(farmer, 6));
            due(4, x.farmerIs(farmer, 7));
            due(2, x.farmerIs(farmer, 8));
        }
        due(4, x.farmerIs(1, 5));
        due(4, x.farmerIs(7, 8));
    }

    static void promise09_leash_waysFrom0To4() {
        PigNinths x = new PigNinths();
        due(4, x.leash(5, 1, 0));
        due(0, x.leash(5, 1, 4));
        due(4, x.leash(5, 1, 3));
        due(3, x.farmerIs(5, 6));
    }

    static void promise09_leash_noSuchFarmer() {
        for (int farmer : NO_FARMERS) {
            refused(BEYOND, x -> x.leash(farmer, 0, 1));
        }
    }

    static void promise09_leash_noSuchPlaceInIt() {
        for (int i : new int[] {-1, 4, MIN, MAX}) {
            refused(BEYOND, x -> x.leash(0, i, 1));
            refused(BEYOND, x -> x.leash(8, i, 1));
        }
    }

    static void promise09_leash_noSuchWay() {
        for (int way : new int[] {-1, 5, MIN, MAX}) {
            refused(BEYOND, x -> x.leash(0, 0, way));
        }
    }

    // ---- promise 10: pig

    static void promise10_pig_placesFrom0To15() {
        PigNinths x = new PigNinths();
        due(0, x.pig(0, 15));
        due(15, x.pig(0, 0));
        due(0, x.pig(0, 15));
        due(15, x.count(2));
        due(5, x.count(3));
    }

    static void promise10_pig_noSuchPlace() {
        for (int v : NO_OAKS) {
            refused(BEYOND, x -> x.pig(0, v));
        }
    }

    static void promise10_pig_hungerFrom0To9() {
        PigNinths x = new PigNinths();
        due(5, x.pig(1, 0));
        due(0, x.pig(1, 9));
        due(9, x.pig(1, 9));
        due(9, x.count(3));
        due(0, x.count(2));
    }

    static void promise10_pig_noSuchHunger() {
        for (int v : new int[] {-1, 10, 15, MIN, MAX}) {
            refused(BEYOND, x -> x.pig(1, v));
        }
    }

    static void promise10_pig_noSuchWhat() {
        for (int what : new int[] {-1, 2, MIN, MAX}) {
            refused(BEYOND, x -> x.pig(what, 1));
        }
    }
}
