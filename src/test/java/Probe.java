import java.util.ArrayList;
import java.util.List;

/** All that can be seen of an object by its answers, in two parts, so that a run stays below 512 calls. */
enum Probe {
    /** What is now: the wood, the farmers, the pig, texts, THE TAPE, what waits, THE TRACE. */
    NOW,
    /** What is kept: SHEETS, the IMAGE and how often one was kept. */
    KEPT;

    /** Sets nearly everything to what it is not at first; the IMAGE is another one than what is now. */
    static void furnish(PigNinths x) {
        for (int oak = 0; oak < 16; oak++) {
            x.oak(oak, 1, 7 * oak + 3);
        }
        x.oak(2, 0, 8);
        x.oak(9, 0, 4);
        int[] kms = {64, 36, 45, 57, 19, 23};
        for (int farmer = 0; farmer < kms.length; farmer++) {
            x.farmer(farmer, kms[farmer]);
        }
        x.trade(2, 7);
        x.leash(0, 0, 1);
        x.leash(1, 1, 2);
        x.leash(8, 3, 0);
        x.rain(3);
        x.seed(77);
        x.pig(0, 6);
        x.pig(1, 4);
        Cases.text(x, 0, "m+h%3");
        Cases.text(x, 1, "u*2-a+h");
        x.tell(9);
        Cases.tape(x, "h+");
        x.image();
        x.days(3);
        x.draws(2);
        x.check();
        Cases.text(x, 0, "f");
        Cases.text(x, 0, "f-m");
        Cases.tape(x, "u+");
        x.pig(1, 6);
        x.tell(x.share(5, 1, 1));
        x.tell(x.share(6, 1, 2));
        furnishSheets(x);
        x.body(99);
        x.voice(2, 2, 7);
    }

    private static void furnishSheets(PigNinths x) {
        x.sheet(0, 16, 9);
        x.put(0, 0, 41);
        x.put(0, 8, 300);
        x.sheet(1, 8, 3);
        x.put(1, 1, 100);
        x.sheet(2, 16, 16);
        x.put(2, 3, 999);
        x.put(2, 15, 7);
    }

    List<String> answers(PigNinths x) {
        List<String> seen = new ArrayList<>();
        if (this == NOW) {
            bodies(x, seen);
            state(x, seen, 8);
            later(x, seen);
        } else {
            sheets(x, seen);
            tell(seen, "restore()", x.restore());
            state(x, seen, 4);
            tell(seen, "image()", x.image());
        }
        return seen;
    }

    private static void tell(List<String> seen, String what, long answer) {
        seen.add(what + ": " + answer);
    }

    private static void bodies(PigNinths x, List<String> seen) {
        int bodies = x.count(10);
        for (int i = 0; i < bodies; i++) {
            tell(seen, "body " + i, x.body(i));
        }
    }

    private static void state(PigNinths x, List<String> seen, int mostOfFarmer) {
        for (int what = 0; what < 12; what++) {
            tell(seen, "count " + what, x.count(what));
        }
        for (int oak = 0; oak < 16; oak++) {
            for (int what = 0; what < 3; what++) {
                tell(seen, "oak " + oak + ", " + what, x.oakIs(oak, what));
            }
        }
        for (int farmer = 0; farmer < 9; farmer++) {
            for (int what = 0; what <= mostOfFarmer; what++) {
                tell(seen, "farmer " + farmer + ", " + what, x.farmerIs(farmer, what));
            }
        }
        tell(seen, "what waits", x.check());
        tell(seen, "one more byte", x.feed('a', 1));
        tell(seen, "a text", x.text(1));
        tell(seen, "by that", x.oakIs(9, 2));
    }

    /** FEEDS by a TEXT and LEASHES, by what is found later. */
    private static void later(PigNinths x, List<String> seen) {
        for (int farmer = 0; farmer < 9; farmer++) {
            tell(seen, "PURSE ahead of " + farmer, x.then(19, farmer, 2));
        }
        tell(seen, "untell 1", x.untell(1));
        tell(seen, "untell 0", x.untell(0));
    }

    private static void sheets(PigNinths x, List<String> seen) {
        for (int sheet = 0; sheet < 4; sheet++) {
            int lie = x.unders(sheet);
            tell(seen, "unders " + sheet, lie);
            for (int oak = 0; oak < lie; oak++) {
                tell(seen, "number " + oak + " of " + sheet, x.oakIs(oak, 1));
            }
            // By its bits 300 stays 300, becomes 44, or is too large for what lies UNDER an OAK.
            tell(seen, "put " + sheet, x.put(sheet, 0, 65536 + 300));
            tell(seen, "unders by bits " + sheet, x.unders(sheet));
            tell(seen, "by bits " + sheet, x.oakIs(0, 1));
            long there = 1;
            for (int i = 1; i <= 24 && there == 1; i++) {
                there = x.put(sheet, i, 0);
                tell(seen, "put " + sheet + ", " + i, there);
            }
        }
    }
}
