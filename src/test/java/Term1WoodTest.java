import java.lang.reflect.Field;

/** The boundary cases of the term 1, THE WOOD: what a DAY does at its edges. */
public final class Term1WoodTest extends Cases {
    private Term1WoodTest() {
    }

    public static void main(String[] args) {
        runAll(Term1WoodTest.class);
    }

    // ---- at first

    static void term1_owner_isTheRestBy9AtFirst() {
        PigNinths x = new PigNinths();
        due(0, x.oakIs(0, 0));
        due(8, x.oakIs(8, 0));
        due(0, x.oakIs(9, 0));
        due(6, x.oakIs(15, 0));
    }

    static void term1_under_is0AtFirst() {
        PigNinths x = new PigNinths();
        for (int oak = 0; oak < 16; oak++) {
            due(0, x.oakIs(oak, 1));
        }
    }

    static void term1_rain_is1AtFirst() {
        PigNinths x = new PigNinths();
        due(1, x.count(4));
        x.pig(1, 0);
        x.days(1);
        due(1, x.oakIs(15, 1));
    }

    static void term1_farmers_areOfKind0WithM0AtFirst() {
        for (int farmer = 0; farmer < 9; farmer++) {
            PigNinths x = new PigNinths();
            due(0, x.farmerIs(farmer, 0));
            due(0, x.farmerIs(farmer, 1));
        }
    }

    static void term1_farmers_purseAndHidAre0AtFirst() {
        PigNinths x = new PigNinths();
        for (int farmer = 0; farmer < 9; farmer++) {
            due(0, x.farmerIs(farmer, 2));
            due(0, x.farmerIs(farmer, 3));
        }
    }

    static void term1_turn_isTheNumberAtFirst() {
        PigNinths x = new PigNinths();
        for (int farmer = 0; farmer < 9; farmer++) {
            due(farmer, x.farmerIs(farmer, 4));
        }
    }

    static void term1_leash_isAll4AtFirst() {
        PigNinths x = new PigNinths();
        for (int farmer = 0; farmer < 9; farmer++) {
            for (int i = 5; i <= 8; i++) {
                due(4, x.farmerIs(farmer, i));
            }
        }
    }

    static void term1_pig_placeIs0AndHunger5AtFirst() {
        PigNinths x = new PigNinths();
        due(0, x.count(2));
        due(5, x.count(3));
    }

    static void term1_day_is0AtFirst() {
        due(0, new PigNinths().count(0));
    }

    // ---- rain

    static void term1_rain_fillsAnOakTo999AtMost() {
        PigNinths x = new PigNinths();
        x.pig(1, 0);
        x.rain(9);
        int[] under = {989, 990, 991, 998, 999};
        for (int i = 0; i < under.length; i++) {
            x.oak(10 + i, 1, under[i]);
        }
        x.days(1);
        due(998, x.oakIs(10, 1));
        for (int oak = 11; oak <= 14; oak++) {
            due(999, x.oakIs(oak, 1));
        }
    }

    static void term1_rain_comesUnderTheFirstAndTheLastOak() {
        PigNinths x = new PigNinths();
        x.pig(1, 0);
        x.days(1);
        for (int oak = 0; oak < 16; oak++) {
            due(1, x.oakIs(oak, 1));
        }
    }

    static void term1_rain0_bringsNothing() {
        PigNinths x = dry();
        x.days(45);
        due(0, x.count(5));
    }

    static void term1_rain_fallsAheadOfTheFirstHour() {
        PigNinths x = new PigNinths();
        x.pig(1, 1);
        due(1, x.days(1));
        due(0, x.oakIs(0, 1));
    }

    static void term1_rain_onAFullOakIsLostAheadOfDigging() {
        PigNinths x = new PigNinths();
        x.rain(9);
        x.pig(1, 1);
        x.oak(0, 1, 999);
        due(3, x.days(1));
        due(996, x.oakIs(0, 1));
    }

    // ---- the edges of the wood

    /** Where the pig is behind one hour, led one WAY from an OAK under which alone something lies. */
    private static int led(int oak, int way) {
        PigNinths x = dry();
        x.pig(0, oak);
        x.pig(1, 1);
        x.oak(oak, 1, 9);
        x.leash(0, 0, way);
        x.days(1);
        return x.count(2);
    }

    static void term1_way_northIsNotGoneFromTheFirstRow() {
        for (int column = 0; column < 4; column++) {
            due(column, led(4 + column, 0));
            due(column, led(column, 0));
        }
    }

    static void term1_way_eastIsNotGoneFromTheLastColumn() {
        for (int row = 0; row < 4; row++) {
            due(4 * row + 3, led(4 * row + 2, 1));
            due(4 * row + 3, led(4 * row + 3, 1));
        }
    }

    static void term1_way_southIsNotGoneFromTheLastRow() {
        for (int column = 0; column < 4; column++) {
            due(12 + column, led(8 + column, 2));
            due(12 + column, led(12 + column, 2));
        }
    }

    static void term1_way_westIsNotGoneFromTheFirstColumn() {
        for (int row = 0; row < 4; row++) {
            due(4 * row, led(4 * row + 1, 3));
            due(4 * row, led(4 * row, 3));
        }
    }

    static void term1_way_insideTheWoodAllFourAreGone() {
        for (int oak : new int[] {5, 6, 9, 10}) {
            due(oak - 4, led(oak, 0));
            due(oak + 1, led(oak, 1));
            due(oak + 4, led(oak, 2));
            due(oak - 1, led(oak, 3));
        }
    }

    static void term1_way_thatLeavesTheWoodIsAnHourBySmell() {
        int[][] corners = {{0, 0, 1}, {3, 1, 7}, {15, 2, 14}, {12, 3, 8}};
        for (int[] corner : corners) {
            PigNinths x = dry();
            x.pig(0, corner[0]);
            x.pig(1, 1);
            x.oak(corner[2], 1, 9);
            x.leash(0, 0, corner[1]);
            due(3, x.days(1));
            due(corner[2], x.count(2));
        }
    }

    static void term1_way4_isAnHourBySmell() {
        PigNinths x = dry();
        x.pig(0, 5);
        x.pig(1, 1);
        x.oak(6, 1, 9);
        due(4, x.leash(0, 0, 2));
        due(2, x.leash(0, 0, 4));
        due(3, x.days(1));
        due(6, x.count(2));
    }

    // ---- smell

    /** Where the pig goes from an OAK in one hour by SMELL, where 9 lie under some others. */
    private static int smelled(int oak, int... nines) {
        PigNinths x = dry();
        x.pig(0, oak);
        x.pig(1, 1);
        for (int each : nines) {
            x.oak(each, 1, 9);
        }
        x.days(1);
        return x.count(2);
    }

    static void term1_smell_goesToEachOakBesideItAndItsOwn() {
        for (int oak : new int[] {1, 4, 5, 6, 9}) {
            due(oak, smelled(5, oak));
        }
        for (int oak : new int[] {6, 9, 10, 11, 14}) {
            due(oak, smelled(10, oak));
        }
    }

    static void term1_smell_isNotOfWhatLiesAcross() {
        due(1, smelled(5, 0));
        due(1, smelled(5, 2));
        due(1, smelled(5, 8));
        due(1, smelled(5, 10));
    }

    static void term1_smell_isNotOfWhatLiesTwoAway() {
        due(1, smelled(5, 13));
        due(1, smelled(5, 7));
        due(6, smelled(10, 2));
        due(6, smelled(10, 8));
    }

    static void term1_smell_isNotOfTheRowBehindTheLastColumn() {
        due(2, smelled(3, 4));
        due(3, smelled(7, 8));
        due(7, smelled(11, 12));
    }

    static void term1_smell_isNotOfTheRowAheadOfTheFirstColumn() {
        due(0, smelled(4, 3));
        due(4, smelled(8, 7));
        due(8, smelled(12, 11));
    }

    static void term1_smell_isNotOfTheOtherEndOfTheWood() {
        due(0, smelled(0, 12));
        due(0, smelled(0, 15));
        due(0, smelled(0, 3));
        due(11, smelled(15, 0));
        due(11, smelled(15, 3));
        due(11, smelled(15, 12));
    }

    static void term1_smell_ofSeveralTheLeastOak() {
        due(1, smelled(5, 1, 4, 5, 6, 9));
        due(4, smelled(5, 4, 5, 6, 9));
        due(5, smelled(5, 5, 6, 9));
        due(6, smelled(5, 6, 9));
        due(9, smelled(5, 9));
    }

    static void term1_smell_whereNothingLiesTheLeastOakBesideIt() {
        due(0, smelled(0));
        due(0, smelled(1));
        due(2, smelled(3));
        due(0, smelled(4));
        due(1, smelled(5));
        due(8, smelled(12));
        due(11, smelled(15));
    }

    static void term1_smell_oneMoreIsGreater() {
        PigNinths x = dry();
        x.pig(0, 5);
        x.pig(1, 1);
        x.oak(1, 1, 8);
        x.oak(9, 1, 9);
        x.days(1);
        due(9, x.count(2));
    }

    static void term1_smell_isOfWhatIsLeftInThatHour() {
        PigNinths x = dry();
        x.pig(0, 5);
        x.pig(1, 2);
        x.oak(5, 1, 7);
        x.oak(6, 1, 4);
        // 4 of 7 go in the first hour: the 3 that stay are fewer than 4.
        due(8, x.days(1));
        due(6, x.count(2));
        x = dry();
        x.pig(0, 5);
        x.pig(1, 2);
        x.oak(5, 1, 8);
        x.oak(6, 1, 4);
        due(8, x.days(1));
        due(5, x.count(2));
    }

    // ---- hours

    /** Led 1, 1, 1, 2 from OAK 0; 9 lie under OAK 11, which is beside OAK 7 where the LEASH ends. */
    private static int behindHours(int hunger) {
        PigNinths x = dry();
        x.pig(1, hunger);
        int[] ways = {1, 1, 1, 2};
        for (int i = 0; i < 4; i++) {
            x.leash(0, i, ways[i]);
        }
        x.oak(11, 1, 900);
        x.days(1);
        return x.count(2);
    }

    static void term1_hours_ofHunger0ThereIsNone() {
        PigNinths x = dry();
        x.pig(0, 5);
        x.pig(1, 0);
        x.leash(0, 0, 1);
        x.oak(5, 1, 9);
        x.oak(6, 1, 99);
        due(0, x.days(1));
        due(5, x.count(2));
        due(108, x.count(5));
        due(1, x.count(0));
        due(0, behindHours(0));
    }

    static void term1_hours_ofHunger1ThereIsOne() {
        due(1, behindHours(1));
    }

    static void term1_hours_0To3AreLed() {
        due(2, behindHours(2));
        due(3, behindHours(3));
        due(7, behindHours(4));
    }

    static void term1_hours_the4thOnIsBySmell() {
        due(11, behindHours(5));
        due(11, behindHours(9));
    }

    static void term1_hours_ofHunger9ThereAreNine() {
        PigNinths x = dry();
        x.pig(1, 9);
        x.oak(0, 1, 999);
        due(9 * 11, x.days(1));
    }

    static void term1_hours_hungerStaysTheSameInAllHours() {
        PigNinths x = dry();
        x.oak(0, 1, 999);
        for (int hunger = 0; hunger <= 9; hunger++) {
            x.oak(0, 1, 999);
            x.pig(1, hunger);
            due(hunger * (2 + hunger), x.days(1));
        }
    }

    // ---- what is dug

    private static int dug(int hunger, int under) {
        PigNinths x = dry();
        x.pig(0, 10);
        x.pig(1, hunger);
        x.oak(10, 1, under);
        // The LEASH leads there in the second hour alone.
        x.leash(0, 0, 1);
        x.leash(0, 1, 3);
        x.leash(0, 2, 1);
        x.leash(0, 3, 2);
        int find = x.days(1);
        due(under - find, x.oakIs(10, 1));
        return find;
    }

    static void term1_dig_2AndHungerAtMost() {
        for (int hunger = 2; hunger <= 4; hunger++) {
            due(1 + hunger, dug(hunger, 1 + hunger));
            due(2 + hunger, dug(hunger, 2 + hunger));
            due(2 + hunger, dug(hunger, 3 + hunger));
        }
    }

    static void term1_dig_whereNothingLiesNothingIsFound() {
        due(0, dug(4, 0));
        due(1, dug(4, 1));
    }

    static void term1_dig_theLastTruffle() {
        PigNinths x = dry();
        x.pig(1, 9);
        x.oak(0, 1, 98);
        due(98, x.days(1));
        due(0, x.oakIs(0, 1));
        x.pig(0, 0);
        x.pig(1, 9);
        x.oak(0, 1, 100);
        due(99, x.days(1));
        due(1, x.oakIs(0, 1));
    }

    // ---- how the find is parted

    private static void parted(int km, int find, int own, int hid, int others) {
        PigNinths x = dry();
        x.farmer(0, km);
        x.oak(0, 1, find);
        due(find, x.days(1));
        due(own, x.farmerIs(0, 2));
        due(hid, x.farmerIs(0, 3));
        for (int farmer = 1; farmer < 9; farmer++) {
            due(others, x.farmerIs(farmer, 2));
            due(0, x.farmerIs(farmer, 3));
        }
    }

    static void term1_parts_ofNothing() {
        parted(0, 0, 0, 0, 0);
        parted(39, 0, 0, 0, 0);
    }

    static void term1_parts_lessThan9IsAllLeftOver() {
        parted(0, 1, 1, 0, 0);
        parted(0, 8, 8, 0, 0);
    }

    static void term1_parts_of9NothingIsLeftOver() {
        parted(0, 9, 1, 0, 1);
        parted(0, 18, 2, 0, 2);
    }

    static void term1_parts_whatIsLeftOverIsOfWhoHasThePig() {
        parted(0, 10, 2, 0, 1);
        parted(0, 17, 9, 0, 1);
        parted(0, 35, 11, 0, 3);
    }

    static void term1_parts_ofTheLastFarmer() {
        PigNinths x = dryAt(8);
        x.oak(0, 1, 10);
        due(10, x.days(1));
        due(2, x.farmerIs(8, 2));
        due(1, x.farmerIs(0, 2));
    }

    static void term1_hides_withM0Nothing() {
        parted(30, 35, 11, 0, 3);
    }

    static void term1_hides_withM9All() {
        parted(39, 35, 35, 35, 0);
        parted(39, 1, 1, 1, 0);
    }

    static void term1_hides_cut() {
        parted(31, 8, 8, 0, 0);
        parted(31, 9, 9, 1, 0);
        parted(31, 10, 2, 1, 1);
        parted(38, 9, 9, 8, 0);
        parted(38, 10, 10, 8, 0);
    }

    static void term1_hides_otherKindsNothing() {
        for (int kind = 0; kind < 7; kind++) {
            if (kind != 3) {
                parted(10 * kind + 9, 35, 11, 0, 3);
            }
        }
    }

    static void term1_hides_hidIsSoMuchMore() {
        PigNinths x = dry();
        x.farmer(0, 39);
        x.oak(0, 1, 4);
        x.days(9);
        x.oak(x.count(2), 1, 5);
        x.days(1);
        due(9, x.farmerIs(0, 3));
        due(9, x.farmerIs(0, 2));
    }

    // ---- the fullest purse

    private static int[] purses(PigNinths x) {
        try {
            Field now = PigNinths.class.getDeclaredField("now");
            now.setAccessible(true);
            Field purse = now.getType().getDeclaredField("purse");
            purse.setAccessible(true);
            return (int[]) purse.get(now.get(x));
        } catch (ReflectiveOperationException e) {
            throw new AssertionError("the PURSES cannot be filled: " + e);
        }
    }

    static void term1_purse_above99999999NoMoreIsCounted() {
        // 512 calls cannot find so much: the PURSES are filled from outside.
        PigNinths x = dry();
        x.oak(0, 1, 35);
        int[] purses = purses(x);
        purses[0] = 99999999 - 10;
        purses[1] = 99999999 - 4;
        purses[2] = 99999999 - 3;
        purses[3] = 99999999 - 2;
        purses[4] = 99999999;
        due(99999999, x.then(1, 0, 2));
        due(35, x.days(1));
        int[] due = {99999999, 99999998, 99999999, 99999999, 99999999, 3};
        for (int farmer = 0; farmer < due.length; farmer++) {
            due(due[farmer], x.farmerIs(farmer, 2));
        }
    }

    static void term1_purse_upTo99999999AllIsCounted() {
        PigNinths x = dry();
        x.oak(0, 1, 35);
        purses(x)[0] = 99999999 - 12;
        due(99999998, x.then(1, 0, 2));
        purses(x)[0] = 99999999 - 11;
        due(99999999, x.then(1, 0, 2));
    }

    // ---- feeds

    /** What a FARMER of a KIND feeds on its DAY, by the HUNGER behind it. */
    private static int fed(int km, String text) {
        PigNinths x = dry();
        x.farmer(0, km);
        if (text != null) {
            due(1, text(x, 0, text));
        }
        x.days(1);
        return 9 - x.count(3);
    }

    static void term1_feeds_farmer4WithEachM() {
        due(4, fed(0, null));
        due(4, fed(9, null));
    }

    static void term1_feeds_miserDownTo0() {
        due(4, fed(10, null));
        due(4, fed(11, null));
        due(3, fed(12, null));
        due(1, fed(17, null));
        due(0, fed(18, null));
        due(0, fed(19, null));
    }

    static void term1_feeds_feederUpTo8() {
        due(4, fed(20, null));
        due(4, fed(21, null));
        due(5, fed(22, null));
        due(7, fed(27, null));
        due(8, fed(28, null));
        due(8, fed(29, null));
    }

    static void term1_feeds_hiderAsFarmer() {
        due(4, fed(30, null));
        due(4, fed(39, null));
    }

    static void term1_feeds_starverNotBelow0() {
        due(2, fed(40, null));
        due(1, fed(43, null));
        due(0, fed(44, null));
        due(0, fed(45, null));
        due(0, fed(46, null));
        due(0, fed(49, null));
    }

    static void term1_feeds_pampererNotAbove9() {
        due(8, fed(50, null));
        due(8, fed(51, null));
        due(9, fed(52, null));
        due(9, fed(59, null));
    }

    static void term1_feeds_toldNotBelow0() {
        due(1, fed(60, "1"));
        due(0, fed(60, "0"));
        due(0, fed(60, "0-1"));
        due(0, fed(60, "2048*1024*1024"));
    }

    static void term1_feeds_toldNotAbove9() {
        due(8, fed(60, "8"));
        due(9, fed(60, "9"));
        due(9, fed(60, "10"));
        due(9, fed(60, "2048*1024*1024-1"));
    }

    static void term1_feeds_toldWithoutATextAsFarmer() {
        due(4, fed(60, null));
        due(4, fed(69, null));
    }

    static void term1_feeds_toldOthersDoNotHeedTheText() {
        for (int kind = 0; kind < 6; kind++) {
            due(fed(10 * kind + 3, null), fed(10 * kind + 3, "7"));
        }
    }

    static void term1_hunger_fed0Is9AndFed9Is0() {
        PigNinths x = dry();
        x.farmer(0, 19);
        x.days(1);
        due(9, x.count(3));
        x.farmer(1, 59);
        x.days(1);
        due(0, x.count(3));
    }

    // ---- who has it

    static void term1_turn_theRestBy9WrapsAround() {
        PigNinths x = dry();
        for (int day = 0; day <= 27; day++) {
            due(day % 9, x.count(1));
            x.days(1);
        }
        x = dryAt(9999);
        due(0, x.count(1));
    }

    static void term1_turn_isThatOfTheFarmerNotTheNumber() {
        PigNinths x = dryAt(8);
        due(8, x.trade(0, 8));
        due(0, x.count(1));
        x.oak(0, 1, 8);
        x.days(1);
        due(8, x.farmerIs(0, 2));
        due(8, x.count(1));
    }

    static void term1_day_is1MoreBehindIt() {
        PigNinths x = dry();
        x.days(1);
        due(1, x.count(0));
        x.pig(1, 0);
        x.days(1);
        due(2, x.count(0));
    }
}
