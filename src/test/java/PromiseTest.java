/** Each promise by hand: ordinary calls, the edges that the document names, wrong inputs in their order. */
public final class PromiseTest {
    private static final long BEYOND = -1000000001L;
    private static final long NONE = -1000000002L;
    private static final long STATE = -1000000003L;
    private static final long FULL = -1000000004L;
    private static final long KIND = -1000000005L;
    private static final long PARTED = -1000000006L;
    private static final int MIN = Integer.MIN_VALUE;
    private static final int MAX = Integer.MAX_VALUE;

    private static int wrong = 0;
    private static int promise = 0;
    private static int row = 0;

    private static void due(long want, long got) {
        row++;
        if (got != want) {
            wrong++;
            System.out.println("promise " + promise + ", row " + row + ": answered " + got + ", due is " + want);
        }
    }

    private static void begin(int number) {
        promise = number;
        row = 0;
    }

    /** A wood where no rain falls: what is dug can be counted by hand. */
    private static PigNinths dry() {
        PigNinths x = new PigNinths();
        x.rain(0);
        return x;
    }

    private static int tape(PigNinths x, String text) {
        int size = x.count(8);
        for (int i = 0; i < text.length(); i++) {
            size = x.feed(text.charAt(i), 1);
        }
        return size;
    }

    private static int text(PigNinths x, int use, String text) {
        tape(x, text);
        return x.text(use);
    }

    private static void sheetOf(PigNinths x, int sheet, int bits, int... numbers) {
        due(1, x.sheet(sheet, bits, numbers.length));
        for (int i = 0; i < numbers.length; i++) {
            due(1, x.put(sheet, i, numbers[i]));
        }
    }

    public static void main(String[] args) {
        newObject();
        wood();
        farmers();
        kinds();
        turnsAndLeashes();
        pig();
        tapes();
        faults();
        values();
        untell();
        days();
        feeds();
        hides();
        walks();
        draws();
        thenAndAhead();
        bestLeash();
        bestFeed();
        trades();
        shares();
        whoHid();
        voices();
        bodies();
        sheets();
        moves();
        unders();
        judge();
        images();
        tells();
        counts();
        told();
        System.out.println(wrong == 0 ? "all answers are as due" : wrong + " answers are not as due");
        if (wrong != 0) {
            System.exit(1);
        }
    }

    private static void newObject() {
        begin(1);
        PigNinths x = new PigNinths();
        int[] counts = {0, 0, 0, 5, 1, 0, 0, 0, 0, 0, 0, 1};
        for (int what = 0; what < 12; what++) {
            due(counts[what], x.count(what));
        }
        for (int oak = 0; oak < 16; oak++) {
            due(oak % 9, x.oakIs(oak, 0));
            due(0, x.oakIs(oak, 1));
            due(0, x.oakIs(oak, 2));
        }
        for (int farmer = 0; farmer < 9; farmer++) {
            int[] is = {0, 0, 0, 0, farmer, 4, 4, 4, 4};
            for (int what = 0; what < 9; what++) {
                due(is[what], x.farmerIs(farmer, what));
            }
        }
        for (int k = 1; k <= 6; k++) {
            due(0, x.told(k));
        }
        due(0, x.untell(0));
        due(0, x.untell(1));
        due(NONE, x.body(0));
        due(NONE, x.restore());
        for (int sheet = 0; sheet < 4; sheet++) {
            due(NONE, x.put(sheet, 0, 0));
        }
        due(0, x.check());
    }

    private static void wood() {
        begin(2);
        PigNinths x = new PigNinths();
        due(3, x.oak(3, 0, 8));
        due(8, x.oak(3, 0, 0));
        due(0, x.oak(3, 0, 0));
        due(0, x.oak(15, 1, 999));
        due(999, x.oak(15, 1, 0));
        due(0, x.oak(15, 1, 7));
        due(BEYOND, x.oak(-1, 0, 0));
        due(BEYOND, x.oak(16, 0, 0));
        due(BEYOND, x.oak(MIN, 1, 0));
        due(BEYOND, x.oak(0, -1, 0));
        due(BEYOND, x.oak(0, 2, 0));
        due(BEYOND, x.oak(0, 0, 9));
        due(BEYOND, x.oak(0, 0, -1));
        due(BEYOND, x.oak(0, 1, 1000));
        due(BEYOND, x.oak(0, 1, -1));
        due(0, x.oakIs(0, 0));
        due(0, x.oakIs(0, 1));

        begin(3);
        due(0, x.oakIs(3, 0));
        due(7, x.oakIs(15, 1));
        due(7, x.oakIs(15, 2));
        due(BEYOND, x.oakIs(15, 3));
        due(BEYOND, x.oakIs(15, -1));
        due(BEYOND, x.oakIs(16, 0));
        due(BEYOND, x.oakIs(-1, 0));
        due(1, text(x, 1, "u*100+a*10+h"));
        due(855, x.oakIs(15, 2));
        due(7, x.oakIs(15, 1));
        due(6, x.oakIs(15, 0));
        due(5, x.pig(1, 3));
        due(853, x.oakIs(15, 2));
        due(33, x.oakIs(3, 2));
        // A SMELL that is as low as an ERROR is none.
        due(1, text(x, 1, "0-9999*9999*20-h*0"));
        due(-1999600020L, x.oakIs(3, 2));
        due(1, text(x, 1, "0-1000*1000*1000-1"));
        due(-1000000001L, x.oakIs(3, 2));
        due(13, x.told(1));

        begin(4);
        due(1, x.rain(9));
        due(9, x.rain(0));
        due(0, x.count(4));
        due(BEYOND, x.rain(10));
        due(BEYOND, x.rain(-1));
        due(0, x.rain(0));
    }

    private static void farmers() {
        begin(5);
        PigNinths x = new PigNinths();
        due(0, x.farmer(8, 69));
        due(69, x.farmer(8, 35));
        due(35, x.farmer(8, 35));
        due(BEYOND, x.farmer(8, 70));
        due(BEYOND, x.farmer(8, -1));
        due(BEYOND, x.farmer(9, 0));
        due(BEYOND, x.farmer(-1, 0));
        due(35, x.farmer(8, 7));
        due(7, x.farmer(8, 35));
        due(0, x.farmer(7, 0));
        due(0, x.farmer(0, 0));
        due(3, x.farmerIs(8, 0));

        begin(6);
        due(3, x.farmerIs(8, 0));
        due(5, x.farmerIs(8, 1));
        due(8, x.farmerIs(8, 4));
        x.leash(8, 0, 3);
        x.leash(8, 1, 2);
        x.leash(8, 2, 1);
        x.leash(8, 3, 0);
        due(3, x.farmerIs(8, 5));
        due(2, x.farmerIs(8, 6));
        due(1, x.farmerIs(8, 7));
        due(0, x.farmerIs(8, 8));
        due(4, x.farmerIs(7, 8));
        due(BEYOND, x.farmerIs(8, 9));
        due(BEYOND, x.farmerIs(8, -1));
        due(BEYOND, x.farmerIs(9, 0));
        due(BEYOND, x.farmerIs(-1, 0));
    }

    private static void kinds() {
        begin(7);
        PigNinths x = new PigNinths();
        // Row by KIND of the FARMER, column by the KIND asked: 1 where it is one of these.
        String[] is = {"1000000", "1100000", "1010000", "1001000", "1100100", "1010010", "1000001"};
        for (int kind = 0; kind < 7; kind++) {
            x.farmer(4, 10 * kind + 9 - kind);
            for (int asked = 0; asked < 7; asked++) {
                due(is[kind].charAt(asked) == '1' ? 9 - kind : KIND, x.as(4, asked));
            }
        }
        due(BEYOND, x.as(4, 7));
        due(BEYOND, x.as(4, -1));
        due(BEYOND, x.as(9, 0));
        due(BEYOND, x.as(-1, 1));
        due(3, x.as(4, 6));
    }

    private static void turnsAndLeashes() {
        begin(8);
        PigNinths x = new PigNinths();
        due(5, x.trade(0, 5));
        due(5, x.count(1));
        due(5, x.farmerIs(0, 4));
        due(0, x.farmerIs(5, 4));
        due(0, x.trade(5, 5));
        due(8, x.trade(5, 8));
        due(8, x.count(1));
        due(BEYOND, x.trade(0, 9));
        due(BEYOND, x.trade(9, 0));
        due(BEYOND, x.trade(-1, 0));
        due(BEYOND, x.trade(0, -1));
        due(5, x.farmerIs(0, 4));

        begin(9);
        due(4, x.leash(2, 3, 0));
        due(0, x.leash(2, 3, 4));
        due(4, x.leash(2, 0, 1));
        due(1, x.farmerIs(2, 5));
        due(4, x.farmerIs(2, 8));
        due(BEYOND, x.leash(9, 0, 0));
        due(BEYOND, x.leash(-1, 0, 0));
        due(BEYOND, x.leash(0, 4, 0));
        due(BEYOND, x.leash(0, -1, 0));
        due(BEYOND, x.leash(0, 0, 5));
        due(BEYOND, x.leash(0, 0, -1));
        due(4, x.farmerIs(0, 5));
    }

    private static void pig() {
        begin(10);
        PigNinths x = new PigNinths();
        due(0, x.pig(0, 15));
        due(15, x.pig(0, 2));
        due(5, x.pig(1, 9));
        due(9, x.pig(1, 0));
        due(0, x.pig(1, 3));
        due(2, x.count(2));
        due(3, x.count(3));
        due(BEYOND, x.pig(0, 16));
        due(BEYOND, x.pig(0, -1));
        due(BEYOND, x.pig(1, 10));
        due(BEYOND, x.pig(1, -1));
        due(BEYOND, x.pig(2, 0));
        due(BEYOND, x.pig(-1, 0));
        due(2, x.count(2));
        due(3, x.count(3));
    }

    private static void tapes() {
        begin(11);
        PigNinths x = new PigNinths();
        due(1, x.feed(0x66L, 1));
        due(9, x.feed(-1L, 8));
        due(BEYOND, x.feed(0L, 0));
        due(BEYOND, x.feed(0L, 9));
        due(BEYOND, x.feed(0L, -1));
        due(BEYOND, x.feed(0L, MAX));
        for (int i = 0; i < 6; i++) {
            due(17 + 8 * i, x.feed(0L, 8));
        }
        due(FULL, x.feed(0L, 8));
        due(FULL, x.feed(0L, 4));
        due(BEYOND, x.feed(0L, 9));
        due(57, x.count(8));
        due(60, x.feed(0L, 3));
        due(FULL, x.feed(0L, 1));
        due(60, x.count(8));
        // The lowest byte comes first: f, then a byte above 127 that no TEXT has.
        due(-11, x.text(0));
        due(0, x.count(8));
        // 1+2-m, the lowest byte first; of a word only n bytes are read.
        due(5, x.feed(0x99996d2d322b31L, 5));
        due(-10 - 4, x.text(1));
        due(3, x.feed(0x99996d2d322b31L, 3));
        due(1, x.text(1));
        due(3, x.oakIs(0, 2));
        due(1, x.untell(1));

        begin(12);
        due(1, text(x, 0, "f"));
        due(0, x.count(8));
        due(3, tape(x, "m+h"));
        due(BEYOND, x.text(2));
        due(BEYOND, x.text(-1));
        due(3, x.count(8));
        due(1, x.text(0));
        due(-10, x.text(0));
        due(-10, x.text(1));
        due(0, x.told(6));
        due(7, x.told(1));
    }

    private static void faults() {
        begin(12);
        row = 100;
        PigNinths x = new PigNinths();
        String[] fault = {
            "", "f+", "f f", "u", "ff", "f<h<m", "f=h=m", "f>h=m", "12345", "1234f", "+f", "-1", "(f", "(f))",
            "()", "((((((f))))))", "!!!!!!f", "!(!(!(f)))", "(((((!f)))))", "f|", "f||h", "f&&h", "f!h", "f(h)",
            "2f", "f2", "f<=h", "(f<h)<m<1", "F", "f\0", "f\377", "1+2*3/4%5-", "f)", "!", "!!!!!", "(((((",
            "(((((f)))))(", "f&", "f<", "f=", "f>", "f-", "f*", "f/", "f%", "!f&", "(f<", "9999/",
        };
        int[] at = {
            0, 2, 1, 0, 1, 3, 3, 3, 4, 4, 0, 0, 2, 3,
            1, 5, 5, 5, 5, 2, 2, 2, 1, 1,
            1, 1, 2, 7, 0, 1, 1, 10, 1, 1, 5, 5,
            11, 2, 2, 2, 2, 2, 2, 2, 2, 3, 3, 5,
        };
        for (int i = 0; i < fault.length; i++) {
            due(-10 - at[i], text(x, 0, fault[i]));
            due(0, x.count(8));
        }
        due(0, x.untell(0));
        due(0, x.told(1));
        String[] stands = {
            "f", "h", "m", "0", "0000", "9999", "f<h", "(f<h)<m", "f<h&h<m|f=m", "!!!!!f", "(((((f)))))",
            "!(!(!f))", "!!f+!!!f+(((f)))", "f*h/m%2", "f-h+1",
            "1+1+1+1+1+1+1+1+1+1+1+1+1+1+1+1+1+1+1+1+1+1+1+1+1+1+1+1+1+11",
        };
        for (String text : stands) {
            due(1, text(x, 0, text));
        }
        // The names of the other USE.
        due(1, text(x, 1, "u+a+h"));
        due(-10, text(x, 1, "f"));
        due(-12, text(x, 1, "u+m"));
        due(-12, text(x, 0, "f+a"));
        // A FAULT lets the one ahead stand.
        due(1, x.untell(1));
        due(1, x.untell(0));
    }

    private static void values() {
        begin(12);
        row = 300;
        PigNinths x = new PigNinths();
        x.oak(7, 1, 12);
        // u 12, a 7, h 5.
        String[] text = {
            "u", "a", "h", "2+3*4", "(2+3)*4", "20-5-5", "100/5/2", "17%10%4", "7/2", "(0-7)/2", "(0-7)%4",
            "7%(0-4)", "5/0", "5%0", "1|0", "5|0", "0|0", "5&7", "5&0", "0|1&0", "1|1&0", "1<2", "2<1", "2>1",
            "1>2", "2=2", "2=3", "1+1=2", "!0", "!5", "!!5", "!0+1", "!(0+1)", "2*!0", "1<2&2<3", "1<2|9<3",
            "9999*9999*9999", "6553/2*9999*0+0012", "u+a*h", "(u<a)+(u>a)", "3-1+1", "8/2*3", "8*3%5", "0-h",
            "(0-2048*1024*1024)/(0-1)", "2<2", "2>2", "(0-2000*1000*1000-9999*9999)>0", "0/0+1", "5&!0=1", "3=3+0",
        };
        long[] value = {
            12, 7, 5, 14, 20, 10, 10, 3, 3, -3, -3,
            3, 0, 0, 1, 1, 0, 1, 0, 0, 1, 1, 0, 1,
            0, 1, 0, 1, 1, 0, 1, 2, 0, 2, 1, 1,
            (int) (9999L * 9999L * 9999L), 12, 47, 1, 3, 12, 4, -5,
            MIN, 0, 0, 0, 1, 1, 1,
        };
        for (int i = 0; i < text.length; i++) {
            due(1, text(x, 1, text[i]));
            due(value[i], x.oakIs(7, 2));
        }
        due(1, text(x, 1, "(0-2048*1024*1024)%(0-1)"));
        due(0, x.oakIs(7, 2));
        due(1, text(x, 1, "2048*1024*1024-1"));
        due(MAX, x.oakIs(7, 2));
        due(1, text(x, 1, "2048*1024*1024*2"));
        due(0, x.oakIs(7, 2));
    }

    private static void untell() {
        begin(13);
        PigNinths x = new PigNinths();
        due(0, x.untell(0));
        due(1, text(x, 0, "f"));
        due(0, x.untell(1));
        due(1, x.untell(0));
        due(0, x.untell(0));
        due(1, text(x, 1, "0-u"));
        x.oak(0, 1, 5);
        due(-5, x.oakIs(0, 2));
        due(1, x.untell(1));
        due(5, x.oakIs(0, 2));
        due(BEYOND, x.untell(2));
        due(BEYOND, x.untell(-1));
        tape(x, "f");
        due(0, x.untell(1));
        due(1, x.count(8));
    }

    private static void days() {
        begin(14);
        PigNinths x = dry();
        x.oak(0, 1, 100);
        due(35, x.days(1));
        due(65, x.oakIs(0, 1));
        due(11, x.farmerIs(0, 2));
        due(3, x.farmerIs(1, 2));
        due(3, x.farmerIs(8, 2));
        due(1, x.count(0));
        due(1, x.count(1));
        // 35 and 30: of the rest by 9 the one who has the pig gets what is left over.
        due(65, x.days(2));
        due(0, x.oakIs(0, 1));
        due(3 + 11 + 3, x.farmerIs(1, 2));
        due(3 + 3 + 3 + 3, x.farmerIs(2, 2));
        due(100, x.count(6));
        due(0, x.days(45));
        due(48, x.count(0));
        due(48 % 9, x.count(1));
        due(BEYOND, x.days(0));
        due(BEYOND, x.days(46));
        due(BEYOND, x.days(-1));
        due(BEYOND, x.days(MIN));
        // Rain falls ahead of the hours, up to 999.
        x.rain(9);
        x.oak(5, 1, 995);
        x.pig(1, 0);
        due(0, x.days(1));
        due(999, x.oakIs(5, 1));
        due(9, x.oakIs(15, 1));
        due(5, x.count(3));
        lastDays();
    }

    private static void lastDays() {
        PigNinths x = dry();
        for (int i = 0; i < 222; i++) {
            due(0, x.days(45));
        }
        due(9990, x.count(0));
        due(STATE, x.days(10));
        due(STATE, x.draws(10));
        due(BEYOND, x.days(46));
        due(BEYOND, x.draws(46));
        due(0, x.days(8));
        due(9998, x.count(0));
        due(8, x.count(1));
        due(STATE, x.days(2));
        due(0, x.days(1));
        due(STATE, x.days(1));
        due(STATE, x.draws(1));
        due(9999, x.count(0));
        due(0, x.count(4));
        due(1, x.count(11));
        // BY DRAWS the last DAY can be reached as well.
        x.pig(1, 0);
        PigNinths y = dry();
        for (int i = 0; i < 222; i++) {
            due(0, y.days(45));
        }
        y.image();
        y.draws(9);
        due(9999, y.count(0));
        due(9990, y.restore());
        due(STATE, y.draws(10));
        due(9990, y.count(0));
        x.pig(1, 5);
        // AHEAD goes beyond 9999: DAY 9999 is of FARMER 0, DAY 10000 of FARMER 1.
        x.oak(0, 1, 70);
        due(35 - 8 * 3, x.then(1, 0, 2));
        due(11 + 3, x.then(2, 1, 2));
        due(70, x.share(0, 0, 2) + x.share(1, 0, 2) + 7 * x.share(2, 0, 2));
        due(0, x.count(6));
    }

    /** What a FARMER of a KIND feeds on its day, by the HUNGER behind it. */
    private static int fed(int km, String feeds) {
        PigNinths x = dry();
        x.oak(0, 1, 100);
        x.farmer(0, km);
        if (feeds != null) {
            due(1, text(x, 0, feeds));
        }
        x.days(1);
        return 9 - x.count(3);
    }

    private static void feeds() {
        begin(14);
        row = 1000;
        int[] miser = {4, 4, 3, 3, 2, 2, 1, 1, 0, 0};
        for (int m = 0; m <= 9; m++) {
            due(4, fed(m, null));
            due(miser[m], fed(10 + m, null));
            due(8 - miser[m], fed(20 + m, null));
            due(4, fed(30 + m, null));
            due(Math.max(0, miser[m] - 2), fed(40 + m, null));
            due(Math.min(9, 2 * (8 - miser[m])), fed(50 + m, null));
            due(4, fed(60 + m, null));
            due(m, fed(60 + m, "m"));
            due(4, fed(m, "9"));
        }
        due(5, fed(60, "h"));
        due(3, fed(60, "f-32"));
        due(9, fed(60, "f"));
        due(0, fed(60, "0-f"));
        due(9, fed(60, "10"));
        due(9, fed(60, "9"));
    }

    private static void hides() {
        begin(14);
        row = 2000;
        for (int kind = 0; kind < 7; kind++) {
            PigNinths x = dry();
            x.oak(0, 1, 100);
            x.farmer(0, 10 * kind + 7);
            due(35, x.days(1));
            due(kind == 3 ? 27 : 0, x.farmerIs(0, 3));
            due(kind == 3 ? 35 : 11, x.farmerIs(0, 2));
            due(kind == 3 ? 0 : 3, x.farmerIs(5, 2));
            due(0, x.farmerIs(5, 3));
        }
        // 35 times 5 by 9 is 19, of the 16 each gets 1, 7 are left over.
        PigNinths x = dry();
        x.oak(0, 1, 100);
        x.farmer(0, 35);
        due(35, x.days(1));
        due(19, x.farmerIs(0, 3));
        due(19 + 1 + 7, x.farmerIs(0, 2));
        due(1, x.farmerIs(1, 2));
    }

    private static void walks() {
        begin(14);
        row = 3000;
        // From 5 north, then east, south, west by the LEASH, the fifth hour by SMELL.
        PigNinths x = dry();
        x.pig(0, 5);
        for (int oak = 0; oak < 16; oak++) {
            x.oak(oak, 1, oak + 20);
        }
        for (int i = 0; i < 4; i++) {
            x.leash(0, i, i);
        }
        due(35, x.days(1));
        due(21 - 7, x.oakIs(1, 1));
        due(22 - 7, x.oakIs(2, 1));
        due(26 - 7, x.oakIs(6, 1));
        due(25 - 7, x.oakIs(5, 1));
        due(29 - 7, x.oakIs(9, 1));
        due(9, x.count(2));
        // A WAY that leaves the wood is not gone: SMELL leads, of equals the least OAK.
        int[] corner = {0, 3, 15, 12};
        int[] led = {1, 2, 11, 8};
        for (int i = 0; i < 4; i++) {
            x = dry();
            x.pig(0, corner[i]);
            x.pig(1, 1);
            for (int oak = 0; oak < 16; oak++) {
                x.oak(oak, 1, oak == corner[i] ? 1 : 5);
            }
            x.leash(0, 0, i);
            due(3, x.days(1));
            due(led[i], x.count(2));
            // West of 0 or east of 3 lies nothing, too.
            x.pig(0, corner[i]);
            x.pig(1, 1);
            x.leash(1, 0, (i + 3) % 4);
            x.days(1);
            due(true, x.count(2) != corner[i]);
        }
        // The pig's own OAK is among those it smells; HUNGER 9 digs 11 at most, in nine hours.
        x = dry();
        x.pig(0, 10);
        x.pig(1, 9);
        x.oak(10, 1, 200);
        due(99, x.days(1));
        due(10, x.count(2));
        due(101, x.oakIs(10, 1));
        // The fifth hour is not led any more.
        x = dry();
        x.oak(0, 1, 50);
        for (int i = 0; i < 4; i++) {
            x.leash(0, i, i % 2 == 0 ? 1 : 3);
        }
        due(21, x.days(1));
        due(0, x.count(2));
        // What is dug is smelled no more: 10, then 9 beside it, then 3, then 2.
        x = dry();
        x.oak(5, 1, 10);
        x.oak(6, 1, 9);
        x.pig(0, 5);
        due(19, x.days(1));
        // In the fifth hour nothing is left: of equals the least OAK beside 6.
        due(2, x.count(2));
        ways();
        noses();
    }

    /** Each WAY from each OAK: it is led there, or stays where SMELL holds it. */
    private static void ways() {
        for (int oak = 0; oak < 16; oak++) {
            for (int way = 0; way < 5; way++) {
                PigNinths x = dry();
                x.pig(0, oak);
                x.pig(1, 1);
                x.oak(oak, 1, 9);
                x.leash(0, 0, way);
                x.days(1);
                int row = oak / 4 + new int[] {-1, 0, 1, 0, 0}[way];
                int column = oak % 4 + new int[] {0, 1, 0, -1, 0}[way];
                boolean stays = row < 0 || row > 3 || column < 0 || column > 3;
                due(stays ? oak : 4 * row + column, x.count(2));
                // Where all smell alike it goes to the least beside it, or its own.
                x.oak(oak, 1, 0);
                x.pig(0, oak);
                x.pig(1, 1);
                x.days(1);
                due(oak >= 4 ? oak - 4 : Math.max(0, oak - 1), x.count(2));
            }
        }
    }

    private static void noses() {
        // A NOSE for what is least, and one for the greatest OAK.
        PigNinths x = dry();
        x.oak(1, 1, 9);
        x.oak(4, 1, 3);
        x.oak(0, 1, 5);
        due(1, text(x, 1, "0-u"));
        x.pig(1, 1);
        due(3, x.days(1));
        due(4, x.count(2));
        due(1, text(x, 1, "a"));
        x.pig(0, 0);
        x.pig(1, 9);
        x.days(1);
        due(15, x.count(2));
        // By HUNGER: it is that of the morning in all hours.
        due(1, text(x, 1, "(h=2)*a"));
        x.pig(0, 0);
        x.pig(1, 2);
        x.days(1);
        due(8, x.count(2));
        x.pig(1, 3);
        x.days(1);
        due(0, x.count(2));
    }

    private static void due(boolean want, boolean got) {
        due(want ? 1 : 0, got ? 1 : 0);
    }

    private static void draws() {
        begin(15);
        PigNinths x = new PigNinths();
        int z = 1;
        x.pig(1, 0);
        z = z * 1103515245 + 12345;
        int rain = (z >>> 8) % 10;
        due(0, x.draws(1));
        due(rain, x.count(4));
        due(z, x.count(11));
        due(rain, x.oakIs(15, 1));
        due(1, x.count(0));
        due(5, x.count(3));
        for (int i = 0; i < 3; i++) {
            z = z * 1103515245 + 12345;
        }
        x.draws(3);
        due(z, x.count(11));
        due((z >>> 8) % 10, x.count(4));
        due(4, x.count(0));
        PigNinths y = dry();
        y.oak(0, 1, 999);
        due(105, y.draws(3));
        due(105, y.count(6));
        due(BEYOND, x.draws(0));
        due(BEYOND, x.draws(46));
        due(BEYOND, x.draws(-1));
        due(z, x.count(11));
        x.draws(45);
        for (int i = 0; i < 45; i++) {
            z = z * 1103515245 + 12345;
        }
        due(z, x.count(11));

        begin(16);
        due(z, x.seed(MIN));
        due(MIN, x.seed(-1000000001));
        due(-1000000001L, x.count(11));
        due(-1000000001L, x.seed(7));
        due(3, x.told(1));
        x.draws(1);
        due(7 * 1103515245 + 12345, x.count(11));
    }

    private static void thenAndAhead() {
        begin(17);
        PigNinths x = dry();
        x.oak(0, 1, 100);
        x.farmer(1, 39);
        x.leash(1, 2, 3);
        due(0, x.then(0, 0, 2));
        due(11, x.then(1, 0, 2));
        due(0, x.then(1, 1, 3));
        due(35, x.then(2, 1, 3));
        due(38, x.then(2, 1, 2));
        due(3, x.then(45, 1, 0));
        due(9, x.then(45, 1, 1));
        due(1, x.then(45, 1, 4));
        due(3, x.then(45, 1, 7));
        due(4, x.then(45, 1, 8));
        x.leash(8, 0, 0);
        x.leash(8, 3, 1);
        due(0, x.then(3, 8, 5));
        due(4, x.then(3, 8, 6));
        due(1, x.then(3, 8, 8));
        x.days(2);
        due(35, x.then(0, 1, 3));
        due(38, x.then(0, 1, 2));
        x = dry();
        x.oak(0, 1, 100);
        due(BEYOND, x.then(46, 0, 0));
        due(BEYOND, x.then(-1, 0, 0));
        due(BEYOND, x.then(0, 9, 0));
        due(BEYOND, x.then(0, -1, 0));
        due(BEYOND, x.then(0, 0, 9));
        due(BEYOND, x.then(0, 0, -1));
        due(0, x.count(0));
        due(0, x.count(6));
        due(100, x.count(5));

        begin(18);
        x = new PigNinths();
        x.oak(1, 1, 50);
        x.oak(15, 1, 60);
        due(0, x.ahead(0, 0));
        due(1, x.ahead(1, 0));
        due(5, x.ahead(1, 1));
        x.farmer(0, 48);
        due(9, x.ahead(1, 1));
        due(110, x.ahead(0, 2));
        due(110 + 16 - 35, x.ahead(1, 2));
        due(15, x.ahead(0, 3));
        due(15, x.ahead(1, 3));
        x.oak(2, 1, 60);
        due(2, x.ahead(0, 3));
        due(BEYOND, x.ahead(46, 0));
        due(BEYOND, x.ahead(-1, 0));
        due(BEYOND, x.ahead(0, 4));
        due(BEYOND, x.ahead(0, -1));
        due(0, x.count(0));
        due(1, x.count(4));
        due(0, dry().ahead(0, 3));
        x.oak(1, 1, 61);
        due(1, x.ahead(0, 3));
    }

    private static void bestLeash() {
        begin(19);
        // Hungry for one hour: east lies more than south, but SMELL is of what is least.
        PigNinths x = dry();
        x.oak(1, 1, 3);
        x.oak(4, 1, 2);
        x.pig(1, 1);
        due(1, text(x, 1, "0-u"));
        x.leash(0, 0, 4);
        due(3, x.bestLeash(0));
        due(1, x.bestLeash(1));
        due(0, x.bestLeash(2));
        due(0, x.bestLeash(3));
        due(0, x.bestLeash(4));
        due(4, x.farmerIs(0, 5));
        // Without that NOSE the first as a row is WAY 0, which leaves the wood: SMELL leads.
        x.untell(1);
        due(3, x.bestLeash(0));
        due(0, x.bestLeash(1));
        // A way round, by four WAYS: 0, 1, 2, 6, 10, with nothing that SMELL would find.
        x = dry();
        x.pig(1, 4);
        x.oak(1, 1, 1);
        x.oak(2, 1, 2);
        x.oak(6, 1, 3);
        x.oak(10, 1, 4);
        x.oak(4, 1, 2);
        due(10, x.bestLeash(0));
        due(1, x.bestLeash(1));
        // WAYS 2, 3 are found by SMELL as well, but these are the first as a row.
        due(0, x.bestLeash(2));
        // It is of who has it now; rain falls first.
        x = new PigNinths();
        x.pig(1, 0);
        due(0, x.bestLeash(0));
        due(0, x.bestLeash(4));
        x.pig(1, 3);
        x.trade(0, 3);
        due(3, x.bestLeash(0));
        due(BEYOND, x.bestLeash(5));
        due(BEYOND, x.bestLeash(-1));
        due(0, x.count(0));
        due(0, x.count(5));
        // Of another FARMER, by all four WAYS: from 0 to 15, where alone something lies.
        x = dry();
        x.oak(15, 1, 900);
        x.trade(0, 7);
        x.pig(1, 5);
        x.pig(0, 2);
        due(14, x.bestLeash(0));
        due(1, x.bestLeash(1));
        due(2, x.bestLeash(2));
        due(2, x.bestLeash(3));
        // East leaves the wood there, so SMELL leads from 11 to 15.
        due(1, x.bestLeash(4));
        x.pig(0, 8);
        due(14, x.bestLeash(0));
        due(1, x.bestLeash(1));
        due(1, x.bestLeash(2));
        due(1, x.bestLeash(3));
        due(1, x.bestLeash(4));
        for (int f = 0; f < 9; f++) {
            for (int i = 0; i < 4; i++) {
                due(4, x.farmerIs(f, 5 + i));
            }
        }
        // Four hours lead away from what lies near, to where more lies.
        x = dry();
        x.oak(0, 1, 4);
        x.oak(12, 1, 99);
        due(21, x.bestLeash(0));
        due(2, x.bestLeash(1));
        due(2, x.bestLeash(2));
        due(2, x.bestLeash(3));
        // Once more south leaves the wood, so SMELL lets it stay.
        due(2, x.bestLeash(4));
    }

    private static void bestFeed() {
        begin(20);
        // All later feed 4. Fed with v, the next day finds (9 - v) times (11 - v) at most.
        PigNinths x = dry();
        x.oak(0, 1, 999);
        due(0, x.bestFeed(0));
        // 11, then of 99 a ninth, then 3 for each of 7 days, and 11 on its next day.
        due(11 + 11 + 21 + 11, x.bestFeed(1));
        due(0, x.bestFeed(2));
        due(BEYOND, x.bestFeed(3));
        due(BEYOND, x.bestFeed(-1));
        due(0, x.count(0));
        due(5, x.count(3));
        due(0, x.count(6));
        // Its own next day is the tenth: with 200 in all it feeds so that most is left for that.
        x = dry();
        x.oak(0, 1, 330);
        int[] purse = new int[10];
        int best = 0;
        for (int v = 0; v <= 9; v++) {
            int h = 9 - v;
            int left = 330 - 35 - h * (h + 2);
            purse[v] = 11 + h * (h + 2) / 9;
            for (int day = 2; day < 10; day++) {
                int find = Math.min(35, left);
                left -= find;
                purse[v] += find / 9 + (day == 9 ? find % 9 : 0);
            }
            best = purse[v] > purse[best] ? v : best;
        }
        due(best, x.bestFeed(0));
        due(purse[best], x.bestFeed(1));
        // All others hide all: it feeds 9, that most is left for its own next day.
        x = dry();
        x.oak(0, 1, 35 * 9);
        for (int f = 1; f < 9; f++) {
            x.farmer(f, 39);
        }
        due(9, x.bestFeed(0));
        due(11 + 11, x.bestFeed(1));
        due(0, x.bestFeed(2));
        lostByFeed();
    }

    private static void lostByFeed() {
        PigNinths x = dry();
        x.oak(0, 1, 999);
        for (int f = 1; f < 9; f++) {
            x.farmer(f, 39);
        }
        // All others hide all: FARMER 0 gets of its own two days alone, whatever it feeds.
        due(0, x.bestFeed(0));
        due(22, x.bestFeed(1));
        due(0, x.bestFeed(2));
        // FARMER 0 feeds least, to have most of what FARMER 1 finds; but that one feeds 9 for it.
        x = dry();
        x.oak(0, 1, 999);
        for (int f = 1; f < 9; f++) {
            x.farmer(f, 39);
        }
        x.farmer(0, 39);
        x.farmer(1, 60);
        due(1, text(x, 0, "9*(f>40)"));
        // After a find above 40 FARMER 2 finds nothing, else 99.
        int[] together = new int[10];
        int[] purse = new int[10];
        int best = 0;
        int most = 0;
        for (int v = 0; v <= 9; v++) {
            int h = 9 - v;
            int one = h * (h + 2);
            int two = one > 40 ? 0 : 99;
            together[v] = 35 + one + two + 7 * 35;
            purse[v] = 35 + one / 9 + 35;
            best = purse[v] > purse[best] ? v : best;
            most = Math.max(most, together[v]);
        }
        due(best, x.bestFeed(0));
        due(purse[best], x.bestFeed(1));
        due(most - together[best], x.bestFeed(2));
        due(true, most > together[best]);
    }

    private static void trades() {
        begin(21);
        // All lies with the pig: FARMER 0 finds 35 today, FARMER 1 the last 5; by a trade they change.
        PigNinths x = dry();
        x.oak(0, 1, 40);
        due((3 + 5) - 11, x.gain(0, 1));
        due(11 - (3 + 5), x.gain(1, 0));
        due(0, x.gain(2, 3));
        due(BEYOND, x.gain(2, 2));
        due(BEYOND, x.gain(9, 2));
        due(BEYOND, x.gain(2, 9));
        due(BEYOND, x.gain(-1, 2));
        due(BEYOND, x.gain(2, -1));
        due(0, x.farmerIs(0, 4));
        // Behind 18 DAYS, not 17 nor 19: 35 on each of these but the last, which has 10.
        x = dry();
        x.oak(0, 1, 35 * 17 + 10);
        due((11 + 1) - (3 + 2), x.gain(8, 7));
        due((3 + 2) - (11 + 1), x.gain(7, 8));
        x.oak(0, 1, 35 * 18 + 10);
        due(0, x.gain(8, 7));
        due(0, x.gain(0, 8));

        begin(22);
        due(NONE, dry().bestTrade());
        x = dry();
        x.oak(0, 1, 40);
        due(NONE, x.bestTrade());
        due(1, x.told(2));
        bestTrades();
        bestTradeOfTwo();
    }

    /** FARMER 0 and FARMER 1 (each then a ninth and what is left over) would both gain, no others. */
    private static void bestTradeOfTwo() {
        int found = 0;
        for (int lies = 0; lies < 999; lies++) {
            PigNinths x = dry();
            x.oak(0, 1, lies);
            x.farmer(0, 31 + lies % 9);
            x.farmer(1, 40 + lies % 10);
            int most = 0;
            int pair = -1;
            int gains = 0;
            for (int one = 0; one < 2; one++) {
                for (int other = one + 1; other < 9; other++) {
                    int a = x.gain(one, other);
                    int b = x.gain(other, one);
                    if (a > 0 && b > 0 && a + b > most) {
                        most = a + b;
                        pair = 10 * one + other;
                        gains = Math.min(a, b);
                    }
                }
            }
            int is = x.bestTrade();
            due(true, is >= 20 || is == (pair < 0 ? NONE : pair));
            found |= is == 1 ? 1 : 0;
            found |= is == pair && gains == 1 ? 2 : 0;
        }
        due(3, found);
    }

    private static void bestTrades() {
        // FARMER 0 feeds 9: the next finds nothing. Who follows gains by it if another comes between.
        PigNinths x = dry();
        x.oak(0, 1, 999);
        x.farmer(3, 60);
        x.farmer(5, 60);
        due(1, text(x, 0, "9"));
        int most = 0;
        int pair = -1;
        for (int one = 0; one < 9; one++) {
            for (int other = one + 1; other < 9; other++) {
                int a = x.gain(one, other);
                int b = x.gain(other, one);
                if (a > 0 && b > 0 && a + b > most) {
                    most = a + b;
                    pair = 10 * one + other;
                }
            }
        }
        due(pair < 0 ? NONE : pair, x.bestTrade());
        due(true, pair >= 0);
        due(3, x.farmerIs(3, 4));
    }

    private static void shares() {
        begin(23);
        // FARMER 0 hides 27 of 35 and the rest of 8; led to OAKS 0, 1 (of FARMERS 0, 1).
        PigNinths x = dry();
        x.oak(0, 1, 14);
        x.oak(1, 1, 100);
        x.farmer(0, 37);
        x.leash(0, 0, 1);
        x.leash(0, 1, 3);
        x.leash(0, 2, 1);
        x.leash(0, 3, 3);
        due(35, x.share(0, 0, 1));
        due(35, x.share(0, 1, 1));
        due(14, x.share(0, 2, 1));
        due(0, x.share(1, 0, 1));
        due(0, x.share(1, 1, 1));
        due(21, x.share(1, 2, 1));
        due(11, x.share(1, 0, 2));
        due(35, x.share(1, 1, 2));
        due(21 + 35, x.share(1, 2, 2));
        due(1, x.oak(1, 0, 5));
        due(0, x.share(1, 2, 1));
        due(21, x.share(5, 2, 1));
        due(0, x.count(0));
        due(0, x.count(6));
        // What came ahead of it is not counted.
        x.days(1);
        due(3, x.share(0, 0, 1));
        x.oak(1, 1, 999);
        due(0, x.share(0, 1, 8));
        // On its next day it is led away from OAK 1 in two hours of the five.
        due(21, x.share(0, 1, 9));
        due(BEYOND, x.share(9, 0, 1));
        due(BEYOND, x.share(-1, 0, 1));
        due(BEYOND, x.share(0, 3, 1));
        due(BEYOND, x.share(0, -1, 1));
        due(BEYOND, x.share(0, 0, 0));
        due(BEYOND, x.share(0, 0, 46));
        due(BEYOND, x.share(0, 0, -1));
        PigNinths y = new PigNinths();
        due(y.then(45, 0, 2), y.share(0, 0, 45));
    }

    private static void whoHid() {
        begin(24);
        // FARMER 1 hides 23 of 35 with 6, of 12 each gets 1; with 5 the PURSES are the same.
        PigNinths x = dry();
        x.oak(0, 1, 999);
        sheetOf(x, 0, 16, 12, 3 + 23 + 4, 4, 4, 4, 4, 4, 4, 4);
        due(2, x.whoHid(0, 2, 0));
        due(1, x.whoHid(0, 2, 1));
        due(5, x.whoHid(0, 2, 2));
        // The PURSES are those behind 2 DAYS, not 1.
        due(0, x.whoHid(0, 1, 0));
        due(NONE, x.whoHid(0, 1, 1));
        due(NONE, x.whoHid(0, 1, 2));
        // As they are, and nobody has hidden: any of the FARMERS with m 0 explains that.
        sheetOf(x, 1, 32, 11, 3, 3, 3, 3, 3, 3, 3, 3);
        due(511, x.whoHid(1, 1, 0));
        due(0, x.whoHid(1, 1, 1));
        due(0, x.whoHid(1, 1, 2));
        // A HIDER that is one already stays so where another one is asked for.
        x.farmer(0, 39);
        due(1, x.whoHid(1, 1, 0));
        sheetOf(x, 2, 8, 35, 0, 0, 0, 0, 0, 0, 0, 0);
        due(511, x.whoHid(2, 1, 0));
        due(0, x.whoHid(2, 1, 1));
        due(7, x.whoHid(2, 1, 2));
        // One who would feed else is fed as a HIDER: then the rest goes otherwise.
        x = dry();
        x.oak(0, 1, 999);
        x.farmer(0, 60);
        due(1, text(x, 0, "9"));
        sheetOf(x, 0, 32, 14, 14, 6, 6, 6, 6, 6, 6, 6);
        due(1, x.whoHid(0, 2, 0));
        sheetOf(x, 0, 32, 11, 3, 3, 3, 3, 3, 3, 3, 3);
        due(510, x.whoHid(0, 2, 0));
        due(1, x.whoHid(0, 2, 1));
        // All of 99 is hidden: with 8 there would be 11 to part, so 9 it is.
        x = dry();
        x.pig(1, 9);
        x.oak(0, 1, 999);
        sheetOf(x, 0, 8, 99, 0, 0, 0, 0, 0, 0, 0, 0);
        due(1, x.whoHid(0, 1, 0));
        due(9, x.whoHid(0, 1, 2));
        x.put(0, 0, 98);
        due(0, x.whoHid(0, 1, 0));
        whoHidSigns();
        whoHidErrors();
    }

    /** A PURSE above the greatest number of a SHEET cannot be told by it: there it has another sign. */
    private static void whoHidSigns() {
        PigNinths x = dry();
        x.oak(0, 1, 999);
        x.farmer(0, 39);
        due(980, x.days(28));
        int[] purses = pursesNextDay(x);
        due(140 + 24 * 3 + 2, purses[0]);
        sheetOf(x, 0, 32, purses);
        due(1, x.whoHid(0, 1, 0) & 1);
        sheetOf(x, 0, 16, purses);
        due(1, x.whoHid(0, 1, 0) & 1);
        sheetOf(x, 0, 8, purses);
        due(0, x.whoHid(0, 1, 0));
        due(NONE, x.whoHid(0, 1, 1));
        // The greatest that each of them tells.
        x = dry();
        x.pig(1, 9);
        x.oak(0, 1, 999);
        x.farmer(0, 39);
        for (int day = 0; day < 30 && x.then(1, 0, 2) <= 127; day++) {
            sheetOf(x, 0, 8, pursesNextDay(x));
            due(1, x.whoHid(0, 1, 0) & 1);
            x.days(1);
        }
        due(1, x.then(1, 0, 2) > 127 ? 1 : 0);
        sheetOf(x, 0, 8, pursesNextDay(x));
        due(0, x.whoHid(0, 1, 0));
        wholeYears();
    }

    /** PURSES that 16 bits do not tell: hungry days until each has more than 32767. */
    private static void wholeYears() {
        PigNinths x = new PigNinths();
        x.rain(9);
        x.pig(1, 9);
        for (int farmer = 0; farmer < 9; farmer++) {
            x.farmer(farmer, 49);
        }
        for (int calls = 0; calls < 200 && x.count(6) <= 9 * 33000; calls++) {
            x.days(45);
        }
        int[] purses = pursesNextDay(x);
        for (int purse : purses) {
            due(1, purse > 32767 && purse < 65536 ? 1 : 0);
        }
        sheetOf(x, 0, 32, purses);
        due(511, x.whoHid(0, 1, 0));
        sheetOf(x, 0, 16, purses);
        due(0, x.whoHid(0, 1, 0));
        due(NONE, x.whoHid(0, 1, 2));
    }

    private static int[] pursesNextDay(PigNinths x) {
        int[] purses = new int[9];
        for (int farmer = 0; farmer < 9; farmer++) {
            purses[farmer] = x.then(1, farmer, 2);
        }
        return purses;
    }

    private static void whoHidErrors() {
        PigNinths x = dry();
        due(NONE, x.whoHid(3, 1, 0));
        due(BEYOND, x.whoHid(4, 1, 0));
        due(BEYOND, x.whoHid(-1, 1, 0));
        due(BEYOND, x.whoHid(3, 0, 0));
        due(BEYOND, x.whoHid(3, 19, 0));
        due(BEYOND, x.whoHid(3, 1, 3));
        due(BEYOND, x.whoHid(3, 1, -1));
        x.sheet(3, 32, 8);
        due(NONE, x.whoHid(3, 1, 0));
        due(BEYOND, x.whoHid(3, 19, 0));
        x.sheet(3, 32, 10);
        due(511, x.whoHid(3, 18, 0));
        x.put(3, 9, 77);
        due(511, x.whoHid(3, 18, 0));
        x.put(3, 8, 77);
        due(0, x.whoHid(3, 18, 0));
        due(NONE, x.whoHid(3, 18, 1));
        due(NONE, x.whoHid(3, 18, 2));
        due(0, x.count(0));
    }

    private static int said(int farmer, int km, int voice, int x) {
        PigNinths pig = new PigNinths();
        pig.farmer(farmer, km);
        return pig.voice(farmer, voice, x);
    }

    private static void voices() {
        begin(25);
        // k is 2, m is 5, x is 7: leads 9, feeds 18, hides 13, parts 7 by 3.
        due(9, said(2, 5, 0, 7));
        due(18, said(2, 5, 1, 7));
        due(13, said(2, 5, 2, 7));
        due(2, said(2, 5, 3, 7));
        // MISER: leads 5, feeds 10, hides 5, parts 2 + (1 + 2 - 4) * 2.
        due(5, said(2, 15, 0, 7));
        due(10, said(2, 15, 1, 7));
        due(5, said(2, 15, 2, 7));
        due(0, said(2, 15, 3, 7));
        // FEEDER: leads 9, feeds -18, hides -23, parts 2.
        due(9, said(2, 25, 0, 7));
        due(-18, said(2, 25, 1, 7));
        due(-23, said(2, 25, 2, 7));
        due(2, said(2, 25, 3, 7));
        // HIDER: hides (3 + 2) * 2 - 5.
        due(9, said(2, 35, 0, 7));
        due(18, said(2, 35, 1, 7));
        due(5, said(2, 35, 2, 7));
        due(-1, said(2, 35, 2, -1));
        due(2, said(2, 35, 3, 7));
        // STARVER: leads (9 - 4) * 3, feeds 30, hides (30 - 5) ^ 2, parts 2 + (3 - 4) * 3 * 2.
        due(15, said(2, 45, 0, 7));
        due(30, said(2, 45, 1, 7));
        due(27, said(2, 45, 2, 7));
        due(-4, said(2, 45, 3, 7));
        // PAMPERER: feeds 0 - (8 + 2) * 2, hides 5 less.
        due(9, said(2, 55, 0, 7));
        due(-20, said(2, 55, 1, 7));
        due(-25, said(2, 55, 2, 7));
        due(2, said(2, 55, 3, 7));
        // TOLD: leads 9, feeds 18 + 5, hides 5 less, parts 2.
        due(9, said(2, 65, 0, 100));
        due(23, said(2, 65, 1, 100));
        due(18, said(2, 65, 2, 100));
        due(33, said(2, 65, 3, 100));
        due(-33, said(2, 65, 3, -100));
        // Ints that wrap.
        due(MIN, said(1, 0, 0, MAX));
        due(MIN + 1, said(2, 0, 0, MAX));
        due(2, said(1, 0, 1, MIN));
        due(MIN, said(1, 0, 3, MIN));
        due(MAX, said(1, 2, 3, MAX));
        for (int kind = 0; kind < 7; kind++) {
            due(PARTED, said(3, 10 * kind + 3, 3, 50));
        }
        PigNinths x = new PigNinths();
        due(BEYOND, x.voice(9, 0, 0));
        due(BEYOND, x.voice(-1, 0, 0));
        due(BEYOND, x.voice(0, 4, 0));
        due(BEYOND, x.voice(0, -1, 0));
        due(PARTED, x.voice(0, 3, 0));
        due(1, x.told(6));
        due(4, x.told(1));
    }

    private static void trace(int km, int voice, int... bodies) {
        PigNinths x = new PigNinths();
        x.farmer(2, km);
        x.voice(2, voice, 7);
        due(bodies.length, x.count(10));
        for (int i = 0; i < bodies.length; i++) {
            due(bodies[i], x.body(i));
        }
        due(NONE, x.body(bodies.length));
    }

    private static void bodies() {
        begin(26);
        trace(5, 0, 10);
        trace(5, 1, 11, 10);
        trace(5, 2, 12, 11, 10);
        trace(5, 3, 13);
        trace(15, 0, 20, 10);
        trace(15, 2, 12, 11, 20, 10);
        trace(15, 3, 21, 13, 11, 20, 10);
        trace(25, 1, 30, 11, 10);
        trace(25, 2, 12, 30, 11, 10);
        trace(35, 2, 40, 12, 11, 10);
        trace(45, 0, 50, 20, 10);
        trace(45, 2, 51, 12, 11, 50, 20, 10);
        trace(45, 3, 21, 13, 11, 50, 20, 10);
        trace(55, 1, 60, 30, 11, 10);
        trace(55, 2, 12, 60, 30, 11, 10);
        trace(65, 0, 70);
        trace(65, 1, 71, 11, 70);
        trace(65, 2, 12, 71, 11, 70);
        // What is PARTED ends there.
        trace(12, 3, 21, 13);
        trace(2, 3, 13);
        PigNinths x = new PigNinths();
        due(NONE, x.body(0));
        due(1, x.voice(1, 0, 0));
        due(2, x.voice(1, 1, 0));
        due(2, x.count(10));
        due(11, x.body(0));
        due(PARTED, x.voice(0, 3, 0));
        due(1, x.count(10));
        due(13, x.body(0));
        due(1, x.voice(1, 0, 0));
        due(0, x.voice(1, 3, 0));
        due(1, x.voice(1, 0, 0));
        due(10, x.body(0));
        due(NONE, x.body(1));
        due(NONE, x.body(-1));
        due(NONE, x.body(30));
        due(BEYOND, x.voice(1, 4, 0));
        due(1, x.count(10));
        due(4, x.told(2));
    }

    private static void sheets() {
        begin(27);
        PigNinths x = new PigNinths();
        due(1, x.sheet(0, 8, 24));
        due(1, x.put(0, 23, 1));
        due(BEYOND, x.put(0, 24, 1));
        due(BEYOND, x.sheet(0, 8, 25));
        due(1, x.put(0, 23, 1));
        due(STATE, x.sheet(0, 8, -1));
        due(STATE, x.sheet(0, 32, MIN));
        due(BEYOND, x.sheet(4, 8, -1));
        due(BEYOND, x.sheet(-1, 8, 1));
        due(BEYOND, x.sheet(0, 7, 1));
        due(BEYOND, x.sheet(0, 64, -1));
        due(BEYOND, x.sheet(0, -8, 1));
        due(BEYOND, x.sheet(4, 0, 1));
        due(1, x.sheet(0, 0, -5));
        due(NONE, x.put(0, 0, 0));
        due(1, x.sheet(0, 0, 99));
        due(1, x.sheet(0, 16, 0));
        due(BEYOND, x.put(0, 0, 0));
        due(0, x.unders(0));
        // All 0 again.
        sheetOf(x, 1, 32, 9, 9);
        due(1, x.sheet(1, 32, 2));
        due(2, x.unders(1));
        due(0, x.oakIs(0, 1));

        begin(28);
        due(BEYOND, x.put(4, 0, 0));
        due(BEYOND, x.put(-1, 0, 0));
        due(NONE, x.put(3, 99, 0));
        due(BEYOND, x.put(1, 2, 0));
        due(BEYOND, x.put(1, -1, 0));
        sheetOf(x, 0, 8, 256 + 99, 127, -256, -129, 128);
        due(4, x.unders(0));
        due(99, x.oakIs(0, 1));
        due(127, x.oakIs(1, 1));
        due(0, x.oakIs(2, 1));
        due(127, x.oakIs(3, 1));
        sheetOf(x, 0, 16, 65536 + 999, -65536 + 5, 65535);
        due(2, x.unders(0));
        due(999, x.oakIs(0, 1));
        due(5, x.oakIs(1, 1));
        sheetOf(x, 0, 32, 65536);
        due(0, x.unders(0));
        signs();
    }

    /** Numbers of 8, 16 and 32 bits alike have a sign: none of these lies UNDER an OAK. */
    private static void signs() {
        begin(28);
        int[][] refused = {{8, -1, 255, 128, -128, 256 + 200, MAX}, {16, -1, 65535, 32768, 32767, MAX}, {32, -1, MIN, MAX}};
        for (int[] row : refused) {
            for (int i = 1; i < row.length; i++) {
                PigNinths x = new PigNinths();
                sheetOf(x, 1, row[0], row[i]);
                due(0, x.unders(1));
                due(0, x.told(1));
                // They keep their sign where they are moved.
                sheetOf(x, 2, row[0], 7, 7);
                due(1, x.move(1, 0, 2, 1, 1));
                due(1, x.unders(2));
                due(7, x.oakIs(0, 1));
                due(0, x.oakIs(1, 1));
            }
        }
        int[][] least = {{8, -128}, {16, -32768}};
        for (int[] row : least) {
            PigNinths x = new PigNinths();
            sheetOf(x, 0, row[0], 0, 2 * row[1] + 3, -2 * row[1] + 4);
            due(3, x.unders(0));
            due(3, x.oakIs(1, 1));
            due(4, x.oakIs(2, 1));
        }
    }

    private static void moves() {
        begin(29);
        PigNinths x = new PigNinths();
        sheetOf(x, 0, 16, 1, 2, 3, 4, 5);
        sheetOf(x, 1, 16, 60, 70, 80);
        sheetOf(x, 2, 32, 0, 0, 0, 0, 0);
        due(BEYOND, x.move(4, 0, 3, 0, 1));
        due(BEYOND, x.move(3, 0, 4, 0, 1));
        due(BEYOND, x.move(-1, 0, 0, 0, 1));
        due(NONE, x.move(0, 0, 3, 0, 1));
        due(NONE, x.move(3, -1, 0, 0, 1));
        due(KIND, x.move(0, -1, 2, 0, 1));
        due(BEYOND, x.move(0, -1, 1, 0, 1));
        due(BEYOND, x.move(0, 0, 1, -1, 1));
        due(BEYOND, x.move(0, 0, 1, 0, -1));
        due(BEYOND, x.move(0, 0, 1, 0, 4));
        due(BEYOND, x.move(0, 3, 1, 0, 3));
        due(BEYOND, x.move(0, 0, 1, 2, 2));
        due(BEYOND, x.move(0, MAX, 1, 0, 2));
        due(BEYOND, x.move(0, 2, 1, MAX, MAX));
        due(BEYOND, x.move(0, 6, 1, 0, 0));
        due(0, x.move(0, 5, 1, 3, 0));
        due(2, x.move(0, 3, 1, 1, 2));
        due(3, x.unders(1));
        due(60, x.oakIs(0, 1));
        due(4, x.oakIs(1, 1));
        due(5, x.oakIs(2, 1));
        sheetOf(x, 3, 16, 0, 0, 0);
        due(3, x.move(1, 0, 3, 0, 3));
        due(3, x.unders(3));
        due(60, x.oakIs(0, 1));
        due(5, x.oakIs(2, 1));
        // To the same one, as they all were: up and down.
        due(4, x.move(0, 0, 0, 1, 4));
        due(5, x.unders(0));
        int[] up = {1, 1, 2, 3, 4};
        for (int i = 0; i < 5; i++) {
            due(up[i], x.oakIs(i, 1));
        }
        due(4, x.move(0, 1, 0, 0, 4));
        due(5, x.unders(0));
        int[] down = {1, 2, 3, 4, 4};
        for (int i = 0; i < 5; i++) {
            due(down[i], x.oakIs(i, 1));
        }
    }

    private static void unders() {
        begin(30);
        PigNinths x = new PigNinths();
        due(BEYOND, x.unders(4));
        due(BEYOND, x.unders(-1));
        due(NONE, x.unders(0));
        x.oak(4, 1, 44);
        sheetOf(x, 0, 32, 999, 0, 7, 1000, 8);
        due(3, x.unders(0));
        due(999, x.oakIs(0, 1));
        due(7, x.oakIs(2, 1));
        due(0, x.oakIs(3, 1));
        due(44, x.oakIs(4, 1));
        sheetOf(x, 0, 32, 5, -1, 5);
        due(1, x.unders(0));
        due(5, x.oakIs(0, 1));
        x.sheet(0, 8, 24);
        x.put(0, 15, 9);
        due(16, x.unders(0));
        due(9, x.oakIs(15, 1));
        due(2, x.told(1));
    }

    private static void judge() {
        begin(31);
        PigNinths x = dry();
        x.oak(1, 1, 40);
        x.oak(2, 1, 900);
        due(BEYOND, x.judge(4));
        due(BEYOND, x.judge(-1));
        due(NONE, x.judge(0));
        due(1, x.sheet(0, 8, 0));
        due(0, x.judge(0));
        // From 0 to 1, then to 2 in the first hour (900 above 40), and there all days.
        sheetOf(x, 0, 8, 0, 2, 2, 2);
        due(4, x.judge(0));
        sheetOf(x, 0, 32, 0, 2, 3, 2);
        due(2, x.judge(0));
        sheetOf(x, 0, 32, 1, 2, 2, 2);
        due(0, x.judge(0));
        sheetOf(x, 0, 16, 0, 1, 2, 2);
        due(1, x.judge(0));
        due(0, x.count(0));
        due(0, x.count(2));
    }

    private static void images() {
        begin(32);
        PigNinths x = dry();
        due(NONE, x.restore());
        x.oak(0, 1, 100);
        x.oak(3, 0, 8);
        x.farmer(4, 35);
        x.leash(5, 1, 2);
        x.trade(6, 7);
        x.seed(99);
        x.pig(0, 1);
        x.pig(1, 4);
        due(1, text(x, 1, "0-u"));
        due(1, text(x, 0, "7"));
        tape(x, "f+");
        x.tell(12);
        x.days(3);
        int[] was = new int[12];
        for (int what = 0; what < 12; what++) {
            was[what] = x.count(what);
        }
        int purse = x.farmerIs(3, 2);
        due(1, x.image());
        changeAll(x);

        begin(33);
        due(3, x.restore());
        for (int what = 0; what < 10; what++) {
            due(was[what], x.count(what));
        }
        due(99, x.count(11));
        due(purse, x.farmerIs(3, 2));
        due(8, x.oakIs(3, 0));
        due(35, x.farmer(4, 35));
        due(2, x.farmerIs(5, 6));
        due(7, x.farmerIs(6, 4));
        due(-x.oakIs(15, 1), x.oakIs(15, 2));
        due(1, x.untell(1));
        due(1, x.untell(0));
        // These do not come back: SHEETS, THE TRACE, what told() tells, how often.
        due(1, x.put(2, 0, 5));
        due(2, x.count(10));
        due(2, x.told(2));
        due(2, x.image());
        due(3, x.restore());
        due(0, x.untell(1));
        due(3, x.restore());
        due(3, x.image());
        due(1, dry().image());
        // THE TAPE and what waits come back as they were, in their order.
        x = dry();
        x.oak(0, 1, 50);
        x.tell(35);
        tape(x, "f<h");
        x.image();
        x.tell(15);
        due(0, x.check());
        due(1, x.text(0));
        due(0, x.restore());
        due(1, x.count(9));
        x.tell(14);
        due(2, x.check());
        tape(x, "<");
        due(-13, x.text(0));
    }

    private static void changeAll(PigNinths x) {
        x.oak(0, 1, 3);
        x.oak(3, 0, 1);
        x.farmer(4, 9);
        x.leash(5, 1, 0);
        x.trade(6, 1);
        x.seed(5);
        x.draws(7);
        x.pig(0, 15);
        x.pig(1, 9);
        x.untell(0);
        due(-10, text(x, 1, "a"));
        due(1, text(x, 1, "a"));
        x.tell(4);
        x.tell(5);
        x.sheet(2, 8, 3);
        x.voice(0, 1, 1);
        due(NONE, x.body(5));
    }

    private static void tells() {
        begin(34);
        PigNinths x = dry();
        for (int i = 0; i < 24; i++) {
            due(i + 1, x.tell(i));
        }
        due(FULL, x.tell(0));
        due(FULL, x.tell(35));
        due(24, x.count(9));
        due(2, x.told(4));

        begin(35);
        x.oak(0, 1, 40);
        due(1, x.check());
        due(0, x.count(9));
        due(0, x.check());
        due(1, x.tell(35));
        due(0, x.check());
        due(0, x.count(9));
        x.tell(35);
        x.tell(5);
        due(3, x.tell(0));
        due(0, x.check());
        x.tell(35);
        x.tell(6);
        x.tell(1);
        due(2, x.check());
        for (int i = 0; i < 24; i++) {
            x.tell(i == 0 ? 35 : i == 1 ? 5 : i == 23 ? -1 : 0);
        }
        due(24, x.check());
        due(0, x.count(0));
    }

    private static void counts() {
        begin(36);
        PigNinths x = dry();
        x.oak(0, 1, 70);
        x.oak(15, 1, 30);
        x.farmer(0, 37);
        x.farmer(1, 37);
        x.days(2);
        x.seed(-5);
        x.rain(3);
        x.pig(0, 6);
        x.pig(1, 8);
        tape(x, "abc");
        x.tell(1);
        x.tell(1);
        x.voice(0, 2, 0);
        int[] due = {2, 2, 6, 8, 3, 30, 70, 54, 3, 2, 4, -5};
        for (int what = 0; what < 12; what++) {
            due(due[what], x.count(what));
        }
        due(BEYOND, x.count(12));
        due(BEYOND, x.count(-1));
        due(2, x.told(1));
    }

    private static void told() {
        begin(37);
        PigNinths x = new PigNinths();
        due(BEYOND, x.told(0));
        due(BEYOND, x.told(7));
        due(BEYOND, x.told(-1));
        due(3, x.told(1));
        due(BEYOND, x.rain(-1));
        due(4, x.told(1));
        due(NONE, x.body(0));
        due(STATE, x.sheet(0, 8, -1));
        due(KIND, x.as(0, 1));
        due(KIND, x.as(0, 2));
        due(PARTED, x.voice(0, 3, 1));
        for (int i = 0; i < 7; i++) {
            x.feed(0L, 8);
        }
        due(FULL, x.feed(0L, 5));
        int[] due = {4, 1, 1, 1, 2, 1};
        for (int k = 1; k <= 6; k++) {
            due(due[k - 1], x.told(k));
        }
        // A FAULT is no ERROR; a look ahead that meets what oak() refuses is none either.
        due(-10, x.text(0));
        x.sheet(0, 32, 1);
        x.put(0, 0, -1);
        due(0, x.unders(0));
        due(4, x.told(1));
    }
}
