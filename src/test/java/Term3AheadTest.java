/** The boundary cases of the term 3, AHEAD: days gone ahead, the best of several, how many days are counted. */
public final class Term3AheadTest extends Cases {
    private static final SetUp NOTHING = x -> { };

    private Term3AheadTest() {
    }

    public static void main(String[] args) {
        runAll(Term3AheadTest.class);
    }

    // ---- days ahead

    static void term3_ahead_by0IsAsItIs() {
        PigNinths x = new PigNinths();
        Probe.furnish(x);
        due(x.count(2), x.ahead(0, 0));
        due(x.count(3), x.ahead(0, 1));
        due(x.count(5), x.ahead(0, 2));
        for (int farmer = 0; farmer < 9; farmer++) {
            for (int what = 0; what < 9; what++) {
                due(x.farmerIs(farmer, what), x.then(0, farmer, what));
            }
        }
    }

    static void term3_ahead_by1And45AsTheyGoBy() {
        for (int n : new int[] {1, 45}) {
            PigNinths x = new PigNinths();
            PigNinths y = new PigNinths();
            Probe.furnish(x);
            Probe.furnish(y);
            y.days(n);
            due(y.count(2), x.ahead(n, 0));
            due(y.count(3), x.ahead(n, 1));
            due(y.count(5), x.ahead(n, 2));
            for (int farmer = 0; farmer < 9; farmer++) {
                for (int what = 0; what < 9; what++) {
                    due(y.farmerIs(farmer, what), x.then(n, farmer, what));
                }
            }
        }
    }

    /** In this wood something is found on each of 45 DAYS, some FARMERS hide, and traded TURNS gain. */
    private static void lay(PigNinths x) {
        for (int oak = 0; oak < 16; oak++) {
            x.oak(oak, 1, 60 + oak);
        }
        x.farmer(0, 19);
        x.farmer(1, 39);
        x.farmer(7, 35);
        x.pig(0, 5);
        x.pig(1, 5);
    }

    private static void alikeBeyond9999(Call call) {
        PigNinths x = dryAt(9999);
        PigNinths y = dryAt(0);
        lay(x);
        lay(y);
        // The rest of 9999 by 9 is 0, as on the first DAY.
        due(call.on(y), call.on(x));
        due(9999, x.count(0));
    }

    static void term3_ahead_beyond9999() {
        alikeBeyond9999(x -> x.ahead(1, 0));
        alikeBeyond9999(x -> x.ahead(1, 1));
        alikeBeyond9999(x -> x.ahead(45, 2));
        alikeBeyond9999(x -> x.ahead(45, 3));
        alikeBeyond9999(x -> x.then(1, 0, 2));
        alikeBeyond9999(x -> x.then(2, 1, 3));
        alikeBeyond9999(x -> x.then(45, 8, 2));
        need(dryAt(9999).then(45, 8, 2) == 0);
    }

    static void term3_ahead_bestLeashAndFeedBeyond9999() {
        for (int what = 0; what <= 4; what++) {
            int asked = what;
            alikeBeyond9999(x -> x.bestLeash(asked));
        }
        for (int what = 0; what <= 2; what++) {
            int asked = what;
            alikeBeyond9999(x -> x.bestFeed(asked));
        }
    }

    static void term3_ahead_tradesAndSharesBeyond9999() {
        alikeBeyond9999(x -> x.gain(0, 1));
        alikeBeyond9999(x -> x.gain(7, 8));
        alikeBeyond9999(x -> x.bestTrade());
        for (int law = 0; law <= 2; law++) {
            int asked = law;
            alikeBeyond9999(x -> x.share(1, asked, 1));
            alikeBeyond9999(x -> x.share(8, asked, 45));
        }
    }

    static void term3_ahead_whoHidBeyond9999() {
        alikeBeyond9999(x -> {
            x.sheet(0, 32, 9);
            for (int farmer = 0; farmer < 9; farmer++) {
                x.put(0, farmer, x.then(18, farmer, 2));
            }
            // FARMER 7 is a HIDER with 5 as it is.
            need((x.whoHid(0, 18, 0) & 1 << 7) != 0);
            return x.whoHid(0, 18, 0);
        });
    }

    static void term3_ahead_judgeAndCheckBeyond9999() {
        alikeBeyond9999(x -> {
            x.sheet(0, 8, 3);
            for (int i = 0; i < 3; i++) {
                x.put(0, i, x.ahead(i, 0));
            }
            due(3, x.judge(0));
            x.put(0, 2, x.ahead(2, 0) + 1);
            return x.judge(0);
        });
        alikeBeyond9999(x -> {
            x.tell(x.share(0, 1, 1));
            x.tell(x.share(1, 1, 2));
            due(0, x.check());
            return x.share(1, 1, 2);
        });
    }

    static void term3_ahead_doesNotDraw() {
        PigNinths x = new PigNinths();
        x.pig(1, 0);
        x.draws(1);
        due(4, x.count(4));
        x.pig(1, 0);
        due(4 * 16 + 4 * 16, x.ahead(1, 2));
        due(1103527590, x.count(11));
    }

    // ---- best leash

    private static void leash(PigNinths x, int find, int... ways) {
        due(find, x.bestLeash(0));
        for (int i = 0; i < 4; i++) {
            due(ways[i], x.bestLeash(1 + i));
        }
    }

    static void term3_bestLeash_ofHunger0IsTheFirstRow() {
        PigNinths x = new PigNinths();
        x.oak(0, 1, 99);
        x.pig(1, 0);
        leash(x, 0, 0, 0, 0, 0);
    }

    static void term3_bestLeash_whereNothingLiesIsTheFirstRow() {
        leash(dry(), 0, 0, 0, 0, 0);
    }

    static void term3_bestLeash_theFirstWayFromNorthToStays() {
        int[] oaks = {1, 6, 9, 4, 5};
        for (int way = 0; way <= 4; way++) {
            PigNinths x = dry();
            x.pig(0, 5);
            x.pig(1, 1);
            x.oak(oaks[way], 1, 9);
            leash(x, 3, way, 0, 0, 0);
        }
    }

    static void term3_bestLeash_ofSeveralTheFirstAsARow() {
        PigNinths x = dry();
        due(1, text(x, 1, "0-u"));
        x.pig(0, 5);
        x.pig(1, 1);
        x.oak(6, 1, 9);
        x.oak(9, 1, 9);
        x.oak(4, 1, 9);
        leash(x, 3, 1, 0, 0, 0);
        x.oak(1, 1, 3);
        leash(x, 3, 0, 0, 0, 0);
        x.oak(1, 1, 2);
        leash(x, 3, 1, 0, 0, 0);
    }

    static void term3_bestLeash_oneMoreIsGreater() {
        PigNinths x = dry();
        due(1, text(x, 1, "0-u"));
        x.pig(0, 5);
        x.pig(1, 1);
        x.oak(1, 1, 1);
        x.oak(6, 1, 1);
        x.oak(4, 1, 2);
        leash(x, 2, 3, 0, 0, 0);
    }

    static void term3_bestLeash_ofHungerBelow4TheLaterWaysAre0() {
        PigNinths x = dry();
        due(1, text(x, 1, "0-u"));
        x.pig(1, 3);
        x.oak(7, 1, 99);
        x.oak(3, 1, 5);
        // Three hours reach OAK 3 or 6 from 0, not 7.
        leash(x, 5, 1, 1, 1, 0);
        x.pig(1, 2);
        leash(x, 0, 0, 0, 0, 0);
    }

    static void term3_bestLeash_theFourthWayIsLed() {
        PigNinths x = dry();
        due(1, text(x, 1, "0-u"));
        x.pig(1, 4);
        x.oak(7, 1, 6);
        leash(x, 6, 1, 1, 1, 2);
        // By 7, 11, 10 to 6: the row is not the first one by the numbers of its WAYS.
        x = dry();
        due(1, text(x, 1, "0-u"));
        x.pig(0, 3);
        x.pig(1, 4);
        for (int oak : new int[] {7, 11, 10, 6}) {
            x.oak(oak, 1, 6);
        }
        leash(x, 24, 2, 2, 3, 0);
    }

    static void term3_bestLeash_theLastRowIsAllStays() {
        // The pig stays where SMELL holds it; each other WAY of OAK 5 leads away from what lies there.
        PigNinths x = dry();
        x.pig(0, 5);
        x.pig(1, 4);
        x.oak(5, 1, 99);
        leash(x, 24, 4, 4, 4, 4);
    }

    static void term3_bestLeash_aWayThenItStays() {
        // To 6 or 9, inside THE WOOD: only by SMELL it stays there.
        int[] oaks = {6, 9};
        for (int i = 0; i < 2; i++) {
            PigNinths x = dry();
            x.pig(0, 5);
            x.pig(1, 4);
            x.oak(oaks[i], 1, 99);
            leash(x, 24, 1 + i, 4, 4, 4);
        }
    }

    static void term3_bestLeash_twoWaysThenItStays() {
        // From 13 by 9 to 5. Of 0, 0, 4, 4 and 0, 4, 4, 4 (SMELL leads from 9 as well) the first as a row.
        PigNinths x = dry();
        x.pig(0, 13);
        x.pig(1, 4);
        x.oak(5, 1, 99);
        leash(x, 18, 0, 0, 4, 4);
    }

    static void term3_bestLeash_theFifthHourIsBySmell() {
        PigNinths x = dry();
        x.pig(1, 5);
        x.oak(15, 1, 900);
        // Four WAYS do not reach it; SMELL is found from beside it.
        x.pig(0, 1);
        due(7, x.bestLeash(0));
        x.pig(0, 0);
        due(0, x.bestLeash(0));
        x.pig(1, 6);
        x.pig(0, 1);
        due(8 + 8, x.bestLeash(0));
    }

    static void term3_bestLeash_isOfWhoHasItNow() {
        PigNinths x = dryAt(8);
        x.pig(1, 1);
        x.oak(0, 1, 2);
        x.oak(1, 1, 3);
        due(1, text(x, 1, "0-u"));
        leash(x, 3, 1, 0, 0, 0);
        x.leash(8, 0, 2);
        leash(x, 3, 1, 0, 0, 0);
        due(2, x.farmerIs(8, 5));
    }

    static void term3_bestLeash_rainFallsFirst() {
        PigNinths x = new PigNinths();
        x.pig(1, 3);
        due(3, x.bestLeash(0));
        x.rain(9);
        due(15, x.bestLeash(0));
    }

    // ---- best feed

    static void term3_bestFeed_ofSeveralTheLeast() {
        PigNinths x = dry();
        due(0, x.bestFeed(0));
        due(0, x.bestFeed(1));
        due(0, x.bestFeed(2));
    }

    static void term3_bestFeed_from0To9() {
        // All others hide all that they find: what is not found by them is left for its own next DAY.
        PigNinths x = dry();
        for (int farmer = 1; farmer < 9; farmer++) {
            x.farmer(farmer, 39);
        }
        x.oak(0, 1, 35 * 9);
        due(9, x.bestFeed(0));
        due(22, x.bestFeed(1));
        x.oak(0, 1, 999);
        due(0, x.bestFeed(0));
        due(22, x.bestFeed(1));
    }

    static void term3_bestFeed_eachOf0To9() {
        // On its own next DAY 35 (11 truffles) are left for it if FARMER 1 finds no more than is more than 350.
        for (int feed = 0; feed <= 9; feed++) {
            PigNinths x = dry();
            for (int farmer = 1; farmer < 9; farmer++) {
                x.farmer(farmer, 39);
            }
            int hunger = 9 - feed;
            x.oak(0, 1, 35 + 7 * 35 + 35 + hunger * (2 + hunger));
            due(feed, x.bestFeed(0));
            due(22, x.bestFeed(1));
            if (feed < 9) {
                // One truffle less, and one more is to be fed.
                x.oak(0, 1, 35 + 7 * 35 + 35 + hunger * (2 + hunger) - 1);
                due(feed + 1, x.bestFeed(0));
            }
        }
    }

    static void term3_bestFeed_notAbove9() {
        // FARMERS 1 and 2 find the 35 that are left and part with them (3 for FARMER 0 by each feed from 0 to 9).
        // Only a HUNGER below 0 would leave all 35 for FARMER 0, who hides what it finds.
        PigNinths x = dry();
        x.oak(0, 1, 70);
        x.farmer(0, 39);
        x.farmer(1, 60);
        for (int farmer = 2; farmer < 8; farmer++) {
            x.farmer(farmer, 59);
        }
        due(1, text(x, 0, "9*(h<0)"));
        due(0, x.bestFeed(0));
        due(35 + 3, x.bestFeed(1));
        due(0, x.bestFeed(2));
    }

    static void term3_bestFeed_ofAPurseThatStaysEmpty() {
        // FARMER 0 finds nothing today, and the others hide all 35: the PURSE is 0 by each feed, nothing is lost.
        PigNinths x = dry();
        x.pig(1, 0);
        x.oak(0, 1, 35);
        for (int farmer = 1; farmer < 9; farmer++) {
            x.farmer(farmer, 39);
        }
        due(0, x.bestFeed(0));
        due(0, x.bestFeed(1));
        due(0, x.bestFeed(2));
    }

    static void term3_bestFeed_isOfWhoHasItNow() {
        PigNinths x = dryAt(4);
        for (int farmer = 0; farmer < 9; farmer++) {
            x.farmer(farmer, farmer == 4 ? 0 : 39);
        }
        x.oak(0, 1, 35 * 9);
        due(9, x.bestFeed(0));
        due(22, x.bestFeed(1));
        // FARMER 5 has it on DAY 4, FARMER 4 (who parts with all) on DAY 5.
        x.trade(4, 5);
        x.oak(0, 1, 999);
        due(0, x.bestFeed(0));
        due(35 + 11 + 35, x.bestFeed(1));
    }

    static void term3_bestFeed_thePurseBehind10Days() {
        // 11, of 99 a ninth, of 35 a ninth on 7 DAYS, 11 on its own next DAY; behind 11 DAYS 3 more.
        PigNinths x = dry();
        x.oak(0, 1, 999);
        due(0, x.bestFeed(0));
        due(11 + 11 + 7 * 3 + 11, x.bestFeed(1));
    }

    static void term3_bestFeed_thePurseThatWasThereIsCounted() {
        PigNinths x = dry();
        x.oak(0, 1, 999);
        x.farmer(0, 39);
        x.days(9);
        x.oak(x.count(2), 1, 0);
        due(35 + 8 * 3, x.bestFeed(1));
        due(35 + 8 * 3, x.farmerIs(0, 2));
    }

    static void term3_bestFeed_isTodayAlone() {
        // FARMER 0 feeds 9 on its own next DAY: nothing is found on the DAY behind these 10.
        PigNinths x = dry();
        x.oak(0, 1, 999);
        x.farmer(0, 59);
        due(0, x.bestFeed(0));
        due(54, x.bestFeed(1));
        due(0, x.ahead(10, 1));
    }

    static void term3_bestFeed_lost0WhereNothingIsLost() {
        PigNinths x = dry();
        x.oak(0, 1, 35 * 9);
        for (int farmer = 1; farmer < 9; farmer++) {
            x.farmer(farmer, 39);
        }
        due(0, x.bestFeed(2));
    }

    static void term3_bestFeed_lostIsByThatFeedByWhichAllAreGreatest() {
        // FARMER 1 feeds 9 behind a find above 40, else 0: the most for all is found where it finds 35 at most.
        PigNinths x = dry();
        x.oak(0, 1, 999);
        x.farmer(0, 39);
        x.farmer(1, 60);
        for (int farmer = 2; farmer < 9; farmer++) {
            x.farmer(farmer, 39);
        }
        due(1, text(x, 0, "9*(f>40)"));
        int[] together = new int[10];
        int[] own = new int[10];
        for (int feed = 0; feed <= 9; feed++) {
            int hunger = 9 - feed;
            int second = hunger * (hunger + 2);
            together[feed] = 35 + second + (second > 40 ? 0 : 99) + 7 * 35;
            own[feed] = 35 + second / 9 + 35;
        }
        // The best for itself is 0 (99 by FARMER 1), for all it is 4 (35, and 99 by FARMER 2).
        due(81, own[0]);
        due(0, x.bestFeed(0));
        due(81, x.bestFeed(1));
        due(35 + 35 + 99 + 245, together[4]);
        due(together[4] - together[0], x.bestFeed(2));
    }

    // ---- traded

    static void term3_gain_behind18Days() {
        // 35 on each of 17 DAYS, 10 on the 18th, which is that of FARMER 8.
        PigNinths x = dry();
        x.oak(0, 1, 35 * 17 + 10);
        due((11 + 1) - (3 + 2), x.gain(8, 7));
        due((3 + 2) - (11 + 1), x.gain(7, 8));
    }

    static void term3_gain_notBehind19Days() {
        PigNinths x = dry();
        x.oak(0, 1, 35 * 18 + 10);
        due(0, x.gain(0, 8));
        due(0, x.gain(8, 0));
    }

    static void term3_gain_mayBeBelow0() {
        PigNinths x = dry();
        x.oak(0, 1, 40);
        due((3 + 5) - 11, x.gain(0, 1));
        due(11 - (3 + 5), x.gain(1, 0));
    }

    static void term3_gain_lessThePurseAsItIs() {
        PigNinths x = dry();
        x.farmer(0, 39);
        x.oak(0, 1, 35);
        x.days(9);
        due(35, x.farmerIs(0, 2));
        due(0, x.gain(0, 1));
    }

    /** The pair of bestTrade() by each gain(); -1: there is none. */
    private static int pairByGains(PigNinths x, boolean lastOfSeveral, boolean with0) {
        int most = 0;
        int pair = -1;
        for (int one = 0; one < 9; one++) {
            for (int other = one + 1; other < 9; other++) {
                int a = x.gain(one, other);
                int b = x.gain(other, one);
                boolean both = a > 0 && b > 0 || with0 && a >= 0 && b >= 0;
                if (both && (a + b > most || lastOfSeveral && a + b == most && most > 0)) {
                    most = a + b;
                    pair = 10 * one + other;
                }
            }
        }
        return pair;
    }

    private static PigNinths traders(int under, int one, int kmOfOne, int other, int kmOfOther) {
        PigNinths x = dry();
        x.oak(0, 1, under);
        x.farmer(one, kmOfOne);
        x.farmer(other, kmOfOther);
        return x;
    }

    static void term3_trade_aGainOf0IsNotAbove0() {
        PigNinths x = traders(200, 0, 19, 0, 19);
        need(pairByGains(x, false, true) >= 0);
        due(-1, pairByGains(x, false, false));
        due(NONE, x.bestTrade());
        // The other way round: the less FARMER alone gains.
        x = traders(250, 0, 19, 1, 19);
        need(pairByGains(x, false, true) >= 0);
        due(-1, pairByGains(x, false, false));
        due(NONE, x.bestTrade());
        x = traders(750, 0, 19, 2, 29);
        need(pairByGains(x, false, true) != 28);
        due(28, x.bestTrade());
    }

    static void term3_trade_aGainOf1IsAbove0() {
        PigNinths x = traders(250, 0, 19, 1, 29);
        due(1, Math.min(x.gain(1, 7), x.gain(7, 1)));
        due(17, x.bestTrade());
    }

    static void term3_trade_ofSeveralTheLeast() {
        PigNinths x = traders(400, 0, 19, 1, 39);
        due(2, pairByGains(x, false, false));
        need(pairByGains(x, true, false) > 2);
        due(2, x.bestTrade());
    }

    static void term3_trade_ofFarmer0IsBelow10() {
        PigNinths x = traders(150, 0, 19, 1, 39);
        due(3, pairByGains(x, false, false));
        due(3, x.bestTrade());
    }

    static void term3_trade_ofTheLastPair() {
        PigNinths x = traders(600, 1, 39, 7, 29);
        due(78, pairByGains(x, false, false));
        due(78, x.bestTrade());
    }

    static void term3_trade_theGreatestOfBothGainsTogether() {
        PigNinths x = traders(400, 0, 29, 8, 19);
        due(8, pairByGains(x, false, false));
        due(8, x.bestTrade());
    }

    // ---- shares

    static void term3_laws_ofOneDay() {
        // FARMER 0 hides 27 of 35; led between OAKS 0 (14, of FARMER 0) and 1 (of FARMER 1).
        PigNinths x = dry();
        x.oak(0, 1, 14);
        x.oak(1, 1, 100);
        x.farmer(0, 37);
        for (int i = 0; i < 4; i++) {
            x.leash(0, i, i % 2 == 0 ? 1 : 3);
        }
        int[][] shares = {{35, 35, 14}, {0, 0, 21}, {0, 0, 0}};
        for (int farmer = 0; farmer < 3; farmer++) {
            for (int law = 0; law <= 2; law++) {
                due(shares[farmer][law], x.share(farmer, law, 1));
            }
        }
    }

    static void term3_laws_of45DaysPartAllThatIsFound() {
        for (int law = 0; law <= 2; law++) {
            PigNinths x = new PigNinths();
            Probe.furnish(x);
            int all = 0;
            for (int farmer = 0; farmer < 9; farmer++) {
                all += x.share(farmer, law, 45);
            }
            need(all > 0);
            due(x.days(45), all);
        }
    }

    static void term3_laws_nothingIsHiddenBy1And2() {
        PigNinths x = dry();
        x.oak(0, 1, 35);
        x.farmer(0, 39);
        x.oak(0, 0, 5);
        due(35, x.share(0, 0, 1));
        due(35, x.share(0, 1, 1));
        due(0, x.share(0, 2, 1));
        due(35, x.share(5, 2, 1));
        due(0, x.share(5, 1, 1));
    }

    static void term3_laws_byWoodTheLastOak() {
        PigNinths x = dry();
        x.pig(0, 15);
        x.oak(15, 1, 35);
        due(35, x.share(6, 2, 1));
        x.oak(15, 0, 8);
        due(35, x.share(8, 2, 1));
        due(0, x.share(6, 2, 1));
    }

    static void term3_laws_whatWasInThePurseIsNotCounted() {
        PigNinths x = dry();
        x.oak(0, 1, 70);
        x.days(1);
        due(11, x.farmerIs(0, 2));
        due(3, x.share(0, 0, 1));
    }

    // ---- who hid

    static void term3_whoHid_with0And9() {
        // 99 are found: each m makes other PURSES.
        PigNinths x = dry();
        x.pig(1, 9);
        x.oak(0, 1, 999);
        sheetOf(x, 0, 8, 11, 11, 11, 11, 11, 11, 11, 11, 11);
        due(511, x.whoHid(0, 1, 0));
        due(0, x.whoHid(0, 1, 1));
        due(0, x.whoHid(0, 1, 2));
        sheetOf(x, 1, 8, 99, 0, 0, 0, 0, 0, 0, 0, 0);
        due(1, x.whoHid(1, 1, 0));
        due(9, x.whoHid(1, 1, 2));
        // 88 are hidden with 8, of 11 each gets 1, 2 are left over.
        sheetOf(x, 2, 8, 88 + 1 + 2, 1, 1, 1, 1, 1, 1, 1, 1);
        due(8, x.whoHid(2, 1, 2));
    }

    static void term3_whoHid_notWithLessThan0NorMoreThan9() {
        // With 10 it would hide 110 of 99, with -1 it would give away 11.
        PigNinths x = dry();
        x.pig(1, 9);
        x.oak(0, 1, 999);
        sheetOf(x, 0, 8, 110 - 1 - 2, -1, -1, -1, -1, -1, -1, -1, -1);
        due(0, x.whoHid(0, 1, 0));
        sheetOf(x, 0, 8, 12 + 2 - 11, 12, 12, 12, 12, 12, 12, 12, 12);
        due(0, x.whoHid(0, 1, 0));
    }

    static void term3_whoHid_theLeastM() {
        // 15 of 35 are hidden with 4, 19 with 5, 23 with 6: of the rest each gets 2, 1, 1.
        PigNinths x = dry();
        x.oak(0, 1, 999);
        sheetOf(x, 0, 8, 35 - 8, 1, 1, 1, 1, 1, 1, 1, 1);
        due(5, x.whoHid(0, 1, 2));
    }

    static void term3_whoHid_theFirstAndTheLastFarmer() {
        PigNinths x = dry();
        x.pig(1, 9);
        x.oak(0, 1, 999);
        x.trade(0, 8);
        sheetOf(x, 0, 8, 0, 0, 0, 0, 0, 0, 0, 0, 99);
        due(256, x.whoHid(0, 1, 0));
        due(8, x.whoHid(0, 1, 1));
        x.trade(0, 8);
        sheetOf(x, 0, 8, 99, 0, 0, 0, 0, 0, 0, 0, 0);
        due(1, x.whoHid(0, 1, 0));
        due(0, x.whoHid(0, 1, 1));
    }

    static void term3_whoHid_behindNDaysNotOneLess() {
        PigNinths x = dry();
        x.oak(0, 1, 999);
        sheetOf(x, 0, 8, 14, 14, 6, 6, 6, 6, 6, 6, 6);
        due(0, x.whoHid(0, 1, 0));
        due(511, x.whoHid(0, 2, 0));
        due(0, x.whoHid(0, 3, 0));
    }

    static void term3_whoHid_behind18Days() {
        // 35 on 18 DAYS: each twice 11 and 16 times 3.
        PigNinths x = dry();
        x.oak(0, 1, 999);
        sheetOf(x, 0, 8, 70, 70, 70, 70, 70, 70, 70, 70, 70);
        due(511, x.whoHid(0, 18, 0));
        due(0, x.whoHid(0, 17, 0));
    }

    static void term3_whoHid_eachOfTheNineNumbersCounts() {
        PigNinths x = dry();
        sheetOf(x, 0, 8, 0, 0, 0, 0, 0, 0, 0, 0, 0);
        due(511, x.whoHid(0, 1, 0));
        for (int i = 0; i < 9; i++) {
            x.put(0, i, 1);
            due(0, x.whoHid(0, 1, 0));
            x.put(0, i, 0);
        }
        due(511, x.whoHid(0, 1, 0));
    }

    static void term3_whoHid_allOthersAsTheyAre() {
        // FARMER 0 hides all as it is: were another one a HIDER, FARMER 0 would still.
        PigNinths x = dry();
        x.oak(0, 1, 999);
        x.farmer(0, 39);
        sheetOf(x, 0, 8, 35, 0, 0, 0, 0, 0, 0, 0, 0);
        due(511, x.whoHid(0, 1, 0));
        sheetOf(x, 0, 8, 11, 3, 3, 3, 3, 3, 3, 3, 3);
        due(1, x.whoHid(0, 1, 0));
        due(0, x.whoHid(0, 1, 2));
    }

    static void term3_whoHid_asAHiderItFeedsSo() {
        // FARMER 0 is a PAMPERER: as a HIDER it would feed 4, and FARMER 1 would find 35.
        PigNinths x = dry();
        x.oak(0, 1, 999);
        x.farmer(0, 59);
        sheetOf(x, 0, 8, 14, 14, 6, 6, 6, 6, 6, 6, 6);
        due(1, x.whoHid(0, 2, 0));
        sheetOf(x, 0, 8, 11, 3, 3, 3, 3, 3, 3, 3, 3);
        due(510, x.whoHid(0, 2, 0));
    }

    // ---- map

    static void term3_map_whereNothingLiesIsOak0() {
        due(0, dry().ahead(0, 3));
        due(0, dry().ahead(45, 3));
    }

    static void term3_map_ofSeveralTheLeast() {
        PigNinths x = dry();
        x.oak(15, 1, 9);
        due(15, x.ahead(0, 3));
        x.oak(14, 1, 9);
        due(14, x.ahead(0, 3));
        x.oak(0, 1, 9);
        due(0, x.ahead(0, 3));
        x.oak(15, 1, 10);
        due(15, x.ahead(0, 3));
    }

    static void term3_map_isOfWhatLiesThere() {
        PigNinths x = dry();
        x.oak(1, 1, 50);
        x.oak(15, 1, 16);
        due(1, x.ahead(0, 3));
        due(15, x.ahead(1, 3));
        x.oak(15, 1, 15);
        due(1, x.ahead(1, 3));
    }

    // ---- draws

    private static void drawn(int seed, int rain, int z) {
        PigNinths x = dry();
        x.pig(1, 0);
        x.seed(seed);
        due(0, x.draws(1));
        due(rain, x.count(4));
        due(rain, x.oakIs(0, 1));
        due(z, x.count(11));
    }

    static void term3_draws_zIs1AtFirst() {
        PigNinths x = new PigNinths();
        due(1, x.count(11));
        due(1, x.seed(1));
        drawn(1, 4, 1103527590);
    }

    static void term3_draws_zWrapsAround() {
        // 2207042835 is above the greatest int.
        drawn(2, 1, -2087924461);
        drawn(-2, 1, 2087949151);
    }

    static void term3_draws_ofAZBelow0ItsBitsAreShifted() {
        drawn(6, 0, -1968830777);
        drawn(18, 9, -1611549725);
        drawn(-1, 7, -1103502900);
    }

    static void term3_draws_theRestBy10IsFrom0To9() {
        int seen = 0;
        PigNinths x = dry();
        for (int i = 0; i < 100; i++) {
            x.draws(1);
            need(x.count(4) >= 0 && x.count(4) <= 9);
            seen |= 1 << x.count(4);
        }
        due(1023, seen);
    }

    static void term3_draws_rainStaysSo() {
        PigNinths x = dry();
        x.seed(18);
        x.draws(1);
        due(9, x.count(4));
        x.pig(1, 0);
        int under = x.count(5);
        x.days(1);
        due(under + 16 * 9, x.count(5));
        due(9, x.count(4));
    }

    static void term3_draws_leastAndGreatestZ() {
        drawn(MIN, (MIN + 12345 >>> 8) % 10, MIN + 12345);
        drawn(MAX, (int) ((0x80000000L - 1103515245L + 12345 >>> 8) % 10), (int) (0x80000000L - 1103515245L + 12345));
        drawn(0, 8, 12345);
    }

    static void term3_ahead_changesNothing() {
        PigNinths x = new PigNinths();
        Probe.furnish(x);
        int seen = x.then(45, 3, 2);
        looked(seen, NOTHING, y -> y.then(45, 3, 2));
    }
}
