/** The boundary cases of the term 5, SHEETS: which there are, how long, and what their numbers hold. */
public final class Term5SheetsTest extends Cases {
    private Term5SheetsTest() {
    }

    public static void main(String[] args) {
        runAll(Term5SheetsTest.class);
    }

    /** A number as a SHEET of so many bits holds it, as PLACE (0 .. 15) tells it; -1: it is none of these. */
    private static int held(int bits, int v) {
        PigNinths x = new PigNinths();
        sheetOf(x, 0, bits, v);
        for (int place = 0; place < 16; place++) {
            x.pig(0, place);
            if (x.judge(0) == 1) {
                return place;
            }
        }
        return -1;
    }

    /** A number as a SHEET holds it, as what lies UNDER an OAK (0 .. 999) tells it; -1: it is none of these. */
    private static int under(int bits, int v) {
        PigNinths x = new PigNinths();
        sheetOf(x, 0, bits, v);
        return x.unders(0) == 1 ? x.oakIs(0, 1) : -1;
    }

    static void term5_sheets_allAreMissingAtFirst() {
        PigNinths x = new PigNinths();
        for (int sheet = 0; sheet < 4; sheet++) {
            due(NONE, x.put(sheet, 0, 0));
            due(NONE, x.unders(sheet));
            due(NONE, x.judge(sheet));
            due(NONE, x.whoHid(sheet, 1, 0));
            due(NONE, x.move(sheet, 0, sheet, 0, 0));
        }
    }

    static void term5_sheets_0To3() {
        PigNinths x = new PigNinths();
        for (int sheet = 0; sheet < 4; sheet++) {
            sheetOf(x, sheet, 8, 10 + sheet);
        }
        for (int sheet = 0; sheet < 4; sheet++) {
            lie(x, sheet, 10 + sheet);
        }
        due(BEYOND, x.sheet(-1, 8, 1));
        due(BEYOND, x.sheet(4, 8, 1));
    }

    static void term5_sheets_0To24Numbers() {
        PigNinths x = new PigNinths();
        for (int n = 0; n <= 24; n++) {
            due(1, x.sheet(0, 8, n));
            due(BEYOND, x.put(0, n, 0));
            due(n == 0 ? BEYOND : 1, x.put(0, n - 1, 0));
        }
        due(BEYOND, x.sheet(0, 8, 25));
    }

    static void term5_sheets_emptyIsNotMissing() {
        PigNinths x = new PigNinths();
        due(1, x.sheet(0, 32, 0));
        due(0, x.unders(0));
        due(0, x.judge(0));
        due(0, x.move(0, 0, 0, 0, 0));
        due(BEYOND, x.put(0, 0, 0));
    }

    static void term5_sheets_fullAt24() {
        PigNinths x = dry();
        x.sheet(0, 8, 24);
        for (int i = 0; i < 24; i++) {
            due(1, x.put(0, i, i));
        }
        for (int i = 0; i < 16; i++) {
            due(16, x.unders(0));
            due(i, x.oakIs(i, 1));
        }
        x.sheet(1, 8, 8);
        due(8, x.move(0, 16, 1, 0, 8));
        lie(x, 1, 16, 17, 18, 19, 20, 21, 22, 23);
    }

    static void term5_bits_8() {
        due(127, under(8, 127));
        due(-1, under(8, 128));
        due(-1, under(8, 255));
        due(0, under(8, 256));
        due(1, under(8, 257));
        due(127, under(8, 256 + 127));
        due(-1, under(8, 256 + 128));
        due(-1, under(8, -1));
        due(-1, under(8, -128));
        due(127, under(8, -129));
        due(0, under(8, -256));
        due(0, under(8, MIN));
        due(-1, under(8, MAX));
    }

    static void term5_bits_16() {
        due(999, under(16, 999));
        due(-1, under(16, 1000));
        due(-1, under(16, 32767));
        due(-1, under(16, 32768));
        due(-1, under(16, 65535));
        due(0, under(16, 65536));
        due(1, under(16, 65537));
        due(999, under(16, 65536 + 999));
        due(-1, under(16, -1));
        due(999, under(16, -65536 + 999));
        due(0, under(16, MIN));
        due(-1, under(16, MAX));
    }

    static void term5_bits_32() {
        due(999, under(32, 999));
        due(-1, under(32, 1000));
        due(256, under(32, 256));
        due(-1, under(32, 65536));
        due(-1, under(32, -1));
        due(-1, under(32, MIN));
        due(-1, under(32, MAX));
    }

    static void term5_bits_inPlacesOfThePig() {
        int[] all = {8, 16, 32};
        for (int bits : all) {
            due(0, held(bits, 0));
            due(15, held(bits, 15));
            due(-1, held(bits, 16));
            due(-1, held(bits, -1));
        }
        due(15, held(8, 256 + 15));
        due(-1, held(16, 256 + 15));
        due(15, held(16, 65536 + 15));
        due(-1, held(32, 65536 + 15));
    }

    /** Lets FARMER 0, who has the pig and hides all, find just so much on this DAY. */
    private static void finds(PigNinths x, int find) {
        x.rain(0);
        x.farmer(0, 39);
        x.pig(1, 9);
        for (int oak = 0; oak < 16; oak++) {
            x.oak(oak, 1, oak == x.count(2) ? find : 0);
        }
        due(0, x.count(1));
        due(find, x.share(0, 1, 1));
    }

    /** Whether a SHEET of so many bits tells the PURSES behind this DAY, where all others are less. */
    private static boolean tells(PigNinths x, int bits) {
        x.sheet(0, bits, 9);
        for (int farmer = 0; farmer < 9; farmer++) {
            x.put(0, farmer, x.then(1, farmer, 2));
        }
        return (x.whoHid(0, 1, 0) & 1) == 1;
    }

    static void term5_bits_8TellPursesUpTo127() {
        PigNinths x = dry();
        finds(x, 99);
        need(tells(x, 8));
        x.days(9);
        finds(x, 28);
        due(127, x.then(1, 0, 2));
        need(tells(x, 8));
        finds(x, 29);
        due(128, x.then(1, 0, 2));
        need(!tells(x, 8));
        need(tells(x, 16));
    }

    static void term5_bits_16TellPursesUpTo32767() {
        PigNinths x = new PigNinths();
        // STARVERS and enough to dig: each gets 11 of 99 on each DAY.
        x.rain(9);
        x.pig(1, 9);
        for (int farmer = 0; farmer < 9; farmer++) {
            x.farmer(farmer, 49);
        }
        for (int oak = 0; oak < 16; oak++) {
            x.oak(oak, 1, 999);
        }
        for (int calls = 0; calls < 300 && 32767 - x.farmerIs(0, 2) >= 99; calls++) {
            x.days(32767 - x.farmerIs(0, 2) > 999 ? 45 : 9);
        }
        int missing = 32767 - x.farmerIs(0, 2);
        finds(x, missing);
        due(32767, x.then(1, 0, 2));
        need(tells(x, 16));
        finds(x, missing + 1);
        due(32768, x.then(1, 0, 2));
        need(!tells(x, 16));
        need(tells(x, 32));
    }

    static void term5_bits_32TellEachPurse() {
        PigNinths x = dry();
        sheetOf(x, 0, 32, 0, 0, 0, 0, 0, 0, 0, 0, 0);
        due(511, x.whoHid(0, 1, 0));
        for (int v : new int[] {MIN, -1, 1, 256, 65536, MAX}) {
            x.put(0, 8, v);
            due(0, x.whoHid(0, 1, 0));
        }
    }
}
