/** The boundary cases of the promises 25 to 31: voices, the trace, sheets. */
public final class Promise25To31Test extends Cases {
    private static final int[] NO_FARMERS = {-1, 9, MIN, MAX};
    private static final int[] NO_SHEETS = {-1, 4, MIN, MAX};
    private static final SetUp NOTHING = x -> { };

    private Promise25To31Test() {
    }

    public static void main(String[] args) {
        runAll(Promise25To31Test.class);
    }

    // ---- promise 25: voice

    static void promise25_voice_theFirstAndTheLastFarmer() {
        PigNinths x = new PigNinths();
        due(7, x.voice(0, 0, 7));
        due(15, x.voice(8, 0, 7));
    }

    static void promise25_voice_noSuchFarmer() {
        for (int farmer : NO_FARMERS) {
            refused(BEYOND, x -> x.voice(farmer, 0, 7));
        }
    }

    static void promise25_voice_theFirstAndTheLastVoice() {
        PigNinths x = new PigNinths();
        x.farmer(1, 3);
        due(8, x.voice(1, 0, 7));
        due(16, x.voice(1, 1, 7));
        due(13, x.voice(1, 2, 7));
        due(3, x.voice(1, 3, 7));
    }

    static void promise25_voice_noSuchVoice() {
        for (int voice : new int[] {-1, 4, MIN, MAX}) {
            refused(BEYOND, x -> x.voice(0, voice, 7));
        }
    }

    static void promise25_voice_partedChangesTheTraceAlone() {
        // FARMER 7 becomes PARTED with m 7; with m 8 the same BODY begins and answers.
        refusedLike(PARTED, x -> x.farmer(7, 7), x -> x.voice(7, 3, 50), y -> {
            y.farmer(7, 8);
            y.voice(7, 3, 50);
            return y.farmer(7, 7);
        });
        PigNinths x = new PigNinths();
        x.voice(1, 2, 0);
        due(3, x.count(10));
        due(PARTED, x.voice(0, 3, 0));
        trace(x, 13);
    }

    static void promise25_voice_behindAPartedOneTheNextAnswers() {
        PigNinths x = new PigNinths();
        x.farmer(0, 10);
        due(PARTED, x.voice(0, 3, 5));
        due(1, x.voice(0, 0, 5));
        trace(x, 20, 10);
        due(1, x.told(6));
        due(PARTED, x.voice(0, 3, 5));
        due(2, x.told(6));
    }

    static void promise25_voice_beyondIsAheadOfParted() {
        // FARMER 0 with m 0 would be PARTED: there is no FARMER 9, and no VOICE 4.
        refused(BEYOND, x -> x.farmer(0, 0), x -> x.voice(9, 3, 0));
        refused(BEYOND, x -> x.farmer(0, 0), x -> x.voice(-1, 3, 0));
        refused(BEYOND, x -> x.farmer(0, 0), x -> x.voice(0, 4, 0));
    }

    static void promise25_voice_anAnswerLikeAnErrorIsNone() {
        PigNinths x = new PigNinths();
        due(PARTED, x.voice(0, 0, (int) PARTED));
        due(BEYOND, x.voice(1, 0, (int) BEYOND - 1));
        due(0, x.told(6));
        due(0, x.told(1));
    }

    static void promise25_voice_leastAndGreatestX() {
        PigNinths x = new PigNinths();
        due(MAX, x.voice(0, 0, MAX));
        due(MIN, x.voice(0, 0, MIN));
        due(MIN, x.voice(1, 0, MAX));
        due(MIN, x.voice(1, 3, MIN));
    }

    static void promise25_voice_changesNothingButTheTrace() {
        PigNinths x = new PigNinths();
        Probe.furnish(x);
        // The same VOICE once more leaves the same TRACE.
        looked(x.voice(2, 2, 7), NOTHING, y -> y.voice(2, 2, 7));
    }

    // ---- promise 26: body

    static void promise26_body_ofAnEmptyTrace() {
        PigNinths x = new PigNinths();
        due(NONE, x.body(0));
        due(NONE, x.body(-1));
        due(NONE, x.body(29));
        due(3, x.told(2));
    }

    static void promise26_body_theFirstAndTheLast() {
        PigNinths x = new PigNinths();
        Probe.furnish(x);
        due(51, x.body(0));
        due(10, x.body(5));
    }

    static void promise26_body_thereIsNoneSuch() {
        for (int i : new int[] {-1, 6, 29, 30, MIN, MAX}) {
            refused(NONE, x -> x.body(i));
        }
    }

    static void promise26_body_aShorterTraceBehindALongerOne() {
        PigNinths x = new PigNinths();
        Probe.furnish(x);
        x.voice(7, 0, 1);
        due(10, x.body(0));
        due(NONE, x.body(1));
        due(NONE, x.body(5));
    }

    static void promise26_body_changesNothing() {
        looked(51, NOTHING, x -> x.body(0));
    }

    // ---- promise 27: sheet

    static void promise27_sheet_theFirstAndTheLast() {
        PigNinths x = new PigNinths();
        due(1, x.sheet(0, 8, 1));
        due(1, x.sheet(3, 32, 2));
        due(1, x.unders(0));
        due(NONE, x.unders(1));
        due(NONE, x.unders(2));
        due(2, x.unders(3));
    }

    static void promise27_sheet_noSuchSheet() {
        for (int sheet : NO_SHEETS) {
            refused(BEYOND, x -> x.sheet(sheet, 8, 1));
            refused(BEYOND, x -> x.sheet(sheet, 0, 1));
        }
    }

    static void promise27_sheet_noSuchBits() {
        for (int bits : new int[] {-8, -1, 1, 7, 9, 15, 17, 24, 31, 33, 64, MIN, MAX}) {
            refused(BEYOND, x -> x.sheet(0, bits, 1));
        }
    }

    static void promise27_sheet_0And24Numbers() {
        PigNinths x = new PigNinths();
        for (int bits : new int[] {8, 16, 32}) {
            due(1, x.sheet(0, bits, 0));
            due(BEYOND, x.put(0, 0, 0));
            due(1, x.sheet(0, bits, 24));
            due(1, x.put(0, 23, 0));
            due(BEYOND, x.put(0, 24, 0));
        }
    }

    static void promise27_sheet_above24() {
        for (int n : new int[] {25, MAX}) {
            for (int bits : new int[] {8, 16, 32}) {
                refused(BEYOND, x -> x.sheet(0, bits, n));
                refused(BEYOND, x -> x.sheet(3, bits, n));
            }
        }
    }

    static void promise27_sheet_nBelow0IsState() {
        for (int n : new int[] {-1, MIN}) {
            for (int bits : new int[] {8, 16, 32}) {
                refused(STATE, x -> x.sheet(0, bits, n));
                refused(STATE, x -> x.sheet(3, bits, n));
            }
        }
    }

    static void promise27_sheet_beyondOfTheSheetAndTheBitsIsAheadOfState() {
        refused(BEYOND, x -> x.sheet(4, 8, -1));
        refused(BEYOND, x -> x.sheet(-1, 32, MIN));
        refused(BEYOND, x -> x.sheet(0, 7, -1));
        refused(BEYOND, x -> x.sheet(0, 64, -1));
        refused(BEYOND, x -> x.sheet(4, 0, -1));
    }

    static void promise27_sheet_missingByBits0() {
        PigNinths x = new PigNinths();
        Probe.furnish(x);
        due(1, x.sheet(0, 0, 9));
        due(NONE, x.unders(0));
        due(1, x.sheet(0, 0, 9));
        due(NONE, x.put(0, 0, 0));
    }

    static void promise27_sheet_ofAMissingOneNDoesNotMatter() {
        for (int n : new int[] {MIN, -1, 0, 24, 25, MAX}) {
            PigNinths x = new PigNinths();
            x.sheet(0, 8, 3);
            due(1, x.sheet(0, 0, n));
            due(NONE, x.unders(0));
            due(0, x.told(1));
            due(0, x.told(3));
        }
    }

    static void promise27_sheet_all0Again() {
        PigNinths x = new PigNinths();
        for (int bits : new int[] {8, 16, 32}) {
            x.sheet(0, bits, 24);
            for (int i = 0; i < 24; i++) {
                x.put(0, i, 7);
            }
            due(1, x.sheet(0, bits, 24));
            due(16, x.unders(0));
            due(0, x.count(5));
            x.sheet(1, bits, 8);
            x.put(1, 0, 7);
            due(8, x.move(0, 16, 1, 0, 8));
            due(8, x.unders(1));
            due(0, x.count(5));
        }
    }

    static void promise27_sheet_all0BehindAMissingOne() {
        PigNinths x = new PigNinths();
        sheetOf(x, 0, 8, 7, 7);
        x.sheet(0, 0, 2);
        x.sheet(0, 8, 2);
        due(2, x.unders(0));
        due(0, x.count(5));
    }

    static void promise27_sheet_shorterThenLonger() {
        PigNinths x = new PigNinths();
        sheetOf(x, 0, 8, 7, 7, 7);
        x.sheet(0, 8, 1);
        due(BEYOND, x.put(0, 1, 0));
        due(1, x.unders(0));
        x.sheet(0, 8, 3);
        lie(x, 0, 0, 0, 0);
    }

    static void promise27_sheet_theOthersStay() {
        PigNinths x = new PigNinths();
        sheetOf(x, 0, 8, 5);
        sheetOf(x, 1, 8, 6);
        x.sheet(0, 8, 1);
        lie(x, 1, 6);
    }

    // ---- promise 28: put

    static void promise28_put_theFirstAndTheLastNumber() {
        PigNinths x = new PigNinths();
        x.sheet(0, 16, 9);
        due(1, x.put(0, 0, 5));
        due(1, x.put(0, 8, 6));
        lie(x, 0, 5, 0, 0, 0, 0, 0, 0, 0, 6);
    }

    static void promise28_put_noSuchSheet() {
        for (int sheet : NO_SHEETS) {
            refused(BEYOND, x -> x.put(sheet, 0, 1));
        }
    }

    static void promise28_put_aMissingSheet() {
        refused(NONE, x -> x.put(3, 0, 1));
        refused(NONE, x -> x.sheet(0, 0, 0), x -> x.put(0, 0, 1));
    }

    static void promise28_put_noSuchNumber() {
        for (int i : new int[] {-1, 9, 23, 24, MIN, MAX}) {
            refused(BEYOND, x -> x.put(0, i, 1));
        }
        refused(BEYOND, x -> x.sheet(3, 8, 0), x -> x.put(3, 0, 1));
        refused(BEYOND, x -> x.sheet(3, 8, 24), x -> x.put(3, 24, 1));
    }

    static void promise28_put_beyondOfTheSheetIsAheadOfNone() {
        refused(BEYOND, x -> x.put(4, -1, 1));
        refused(BEYOND, x -> x.put(-1, 24, 1));
    }

    static void promise28_put_noneIsAheadOfBeyondOfTheNumber() {
        for (int i : new int[] {-1, 24, MIN, MAX}) {
            refused(NONE, x -> x.put(3, i, 1));
        }
    }

    static void promise28_put_itsLowestBitsOf8() {
        PigNinths x = new PigNinths();
        sheetOf(x, 0, 8, 127, 256, 383, -129, 1023 + 1 + 5);
        lie(x, 0, 127, 0, 127, 127, 5);
        for (int v : new int[] {128, 255, -1, -128, 384, MAX}) {
            x.put(0, 0, v);
            due(0, x.unders(0));
        }
    }

    static void promise28_put_itsLowestBitsOf16() {
        PigNinths x = new PigNinths();
        sheetOf(x, 0, 16, 999, 65536, 65536 + 999, -65536 + 5, MIN);
        lie(x, 0, 999, 0, 999, 5, 0);
        for (int v : new int[] {1000, 32767, 32768, 65535, -1, MAX}) {
            x.put(0, 0, v);
            due(0, x.unders(0));
        }
    }

    static void promise28_put_allBitsOf32() {
        PigNinths x = new PigNinths();
        sheetOf(x, 0, 32, 999, 0, 256);
        lie(x, 0, 999, 0, 256);
        for (int v : new int[] {1000, 65536, -1, MIN, MAX}) {
            x.put(0, 0, v);
            due(0, x.unders(0));
        }
    }

    // ---- promise 29: move

    private static final SetUp ROWS = x -> {
        sheetOf(x, 0, 16, 1, 2, 3, 4, 5);
        sheetOf(x, 1, 16, 60, 70, 80);
        sheetOf(x, 2, 32, 9, 9, 9);
        x.sheet(3, 0, 0);
    };

    private static PigNinths rows() {
        PigNinths x = new PigNinths();
        ROWS.on(x);
        return x;
    }

    static void promise29_move_noSuchSheet() {
        for (int sheet : NO_SHEETS) {
            refused(BEYOND, x -> x.move(sheet, 0, 0, 0, 1));
            refused(BEYOND, x -> x.move(0, 0, sheet, 0, 1));
            refused(BEYOND, x -> x.move(sheet, 0, sheet, 0, 1));
        }
    }

    static void promise29_move_oneIsMissing() {
        refused(NONE, ROWS, x -> x.move(0, 0, 3, 0, 1));
        refused(NONE, ROWS, x -> x.move(3, 0, 0, 0, 1));
        refused(NONE, ROWS, x -> x.move(3, 0, 3, 0, 0));
    }

    static void promise29_move_ofUnlikeBits() {
        refused(KIND, ROWS, x -> x.move(0, 0, 2, 0, 1));
        refused(KIND, ROWS, x -> x.move(2, 0, 0, 0, 1));
        refused(KIND, ROWS, x -> x.move(0, 0, 2, 0, 0));
        refused(KIND, x -> { }, x -> x.move(0, 0, 1, 0, 1));
        refused(KIND, x -> x.sheet(3, 32, 3), x -> x.move(1, 0, 3, 0, 1));
    }

    static void promise29_move_ofLikeBitsOfEach() {
        for (int bits : new int[] {8, 16, 32}) {
            PigNinths x = new PigNinths();
            sheetOf(x, 0, bits, 5, 6);
            sheetOf(x, 3, bits, 0, 0);
            due(2, x.move(0, 0, 3, 0, 2));
            lie(x, 3, 5, 6);
        }
    }

    static void promise29_move_nBelow0() {
        refused(BEYOND, ROWS, x -> x.move(0, 0, 1, 0, -1));
        refused(BEYOND, ROWS, x -> x.move(0, 0, 1, 0, MIN));
        refused(BEYOND, ROWS, x -> x.move(0, 3, 1, 3, -1));
    }

    static void promise29_move_iBelow0() {
        refused(BEYOND, ROWS, x -> x.move(0, -1, 1, 0, 1));
        refused(BEYOND, ROWS, x -> x.move(0, MIN, 1, 0, 1));
        refused(BEYOND, ROWS, x -> x.move(0, -1, 1, 0, 0));
    }

    static void promise29_move_jBelow0() {
        refused(BEYOND, ROWS, x -> x.move(0, 0, 1, -1, 1));
        refused(BEYOND, ROWS, x -> x.move(0, 0, 1, MIN, 1));
        refused(BEYOND, ROWS, x -> x.move(0, 0, 1, -1, 0));
    }

    static void promise29_move_theyDontStandInTheOneMovedFrom() {
        refused(BEYOND, ROWS, x -> x.move(1, 0, 0, 0, 4));
        refused(BEYOND, ROWS, x -> x.move(1, 1, 0, 0, 3));
        refused(BEYOND, ROWS, x -> x.move(1, 3, 0, 0, 1));
        refused(BEYOND, ROWS, x -> x.move(1, MAX, 0, 0, 1));
        refused(BEYOND, ROWS, x -> x.move(1, 1, 0, 0, MAX));
        refused(BEYOND, ROWS, x -> x.move(1, MAX, 0, 0, MAX));
    }

    static void promise29_move_theyDontStandInTheOneMovedTo() {
        refused(BEYOND, ROWS, x -> x.move(0, 0, 1, 0, 4));
        refused(BEYOND, ROWS, x -> x.move(0, 0, 1, 1, 3));
        refused(BEYOND, ROWS, x -> x.move(0, 0, 1, 3, 1));
        refused(BEYOND, ROWS, x -> x.move(0, 0, 1, MAX, 1));
        refused(BEYOND, ROWS, x -> x.move(0, 0, 1, MAX, MAX));
    }

    static void promise29_move_allOfARow() {
        PigNinths x = rows();
        due(3, x.move(1, 0, 0, 0, 3));
        lie(x, 0, 60, 70, 80, 4, 5);
        x = rows();
        due(3, x.move(0, 0, 1, 0, 3));
        lie(x, 1, 1, 2, 3);
    }

    static void promise29_move_theLastOfARow() {
        PigNinths x = rows();
        due(1, x.move(0, 4, 1, 2, 1));
        lie(x, 1, 60, 70, 5);
        due(2, x.move(1, 1, 0, 3, 2));
        lie(x, 0, 1, 2, 3, 70, 5);
    }

    static void promise29_move_24Numbers() {
        PigNinths x = new PigNinths();
        x.sheet(0, 8, 24);
        x.put(0, 0, 1);
        x.put(0, 23, 2);
        x.sheet(1, 8, 24);
        due(24, x.move(0, 0, 1, 0, 24));
        due(BEYOND, x.move(0, 0, 1, 0, 25));
        x.sheet(2, 8, 1);
        due(1, x.move(1, 23, 2, 0, 1));
        lie(x, 2, 2);
    }

    static void promise29_move_noneOfThem() {
        looked(0, ROWS, x -> x.move(0, 0, 1, 0, 0));
        looked(0, ROWS, x -> x.move(0, 5, 1, 3, 0));
        looked(0, x -> x.sheet(3, 8, 0), x -> x.move(3, 0, 1, 3, 0));
    }

    static void promise29_move_noneOfThemBehindTheEnd() {
        refused(BEYOND, ROWS, x -> x.move(0, 6, 1, 0, 0));
        refused(BEYOND, ROWS, x -> x.move(0, 0, 1, 4, 0));
        refused(BEYOND, ROWS, x -> x.move(0, MAX, 1, 0, 0));
    }

    static void promise29_move_toTheSameOneAsTheyAllWere() {
        PigNinths x = rows();
        due(4, x.move(0, 0, 0, 1, 4));
        lie(x, 0, 1, 1, 2, 3, 4);
        x = rows();
        due(4, x.move(0, 1, 0, 0, 4));
        lie(x, 0, 2, 3, 4, 5, 5);
        x = rows();
        due(5, x.move(0, 0, 0, 0, 5));
        lie(x, 0, 1, 2, 3, 4, 5);
    }

    static void promise29_move_theOneMovedFromStays() {
        PigNinths x = rows();
        due(3, x.move(0, 2, 1, 0, 3));
        lie(x, 0, 1, 2, 3, 4, 5);
        lie(x, 1, 3, 4, 5);
    }

    static void promise29_move_numbersBelow0KeepTheirSign() {
        for (int bits : new int[] {8, 16, 32}) {
            PigNinths x = new PigNinths();
            sheetOf(x, 0, bits, 4, -1);
            sheetOf(x, 1, bits, 7, 7);
            due(1, x.move(0, 1, 1, 1, 1));
            due(1, x.unders(1));
        }
    }

    static void promise29_move_beyondOfTheSheetIsAheadOfNone() {
        refused(BEYOND, ROWS, x -> x.move(3, 0, 4, 0, 1));
        refused(BEYOND, ROWS, x -> x.move(4, 0, 3, 0, 1));
    }

    static void promise29_move_noneIsAheadOfKindAndOfBeyond() {
        refused(NONE, ROWS, x -> x.move(0, -1, 3, 0, 1));
        refused(NONE, ROWS, x -> x.move(3, 0, 0, 99, 1));
        refused(NONE, ROWS, x -> x.move(2, 0, 3, 0, -1));
    }

    static void promise29_move_kindIsAheadOfBeyondOfTheNumbers() {
        refused(KIND, ROWS, x -> x.move(0, -1, 2, 0, 1));
        refused(KIND, ROWS, x -> x.move(0, 0, 2, 99, 1));
        refused(KIND, ROWS, x -> x.move(0, 0, 2, 0, -1));
    }

    // ---- promise 30: unders

    static void promise30_unders_noSuchSheet() {
        for (int sheet : NO_SHEETS) {
            refused(BEYOND, x -> x.unders(sheet));
        }
    }

    static void promise30_unders_aMissingSheet() {
        refused(NONE, x -> x.unders(3));
        refused(NONE, x -> x.sheet(0, 0, 5), x -> x.unders(0));
    }

    static void promise30_unders_anEmptySheet() {
        looked(0, x -> x.sheet(3, 8, 0), x -> x.unders(3));
    }

    static void promise30_unders_theFirstAndTheLastSheet() {
        PigNinths x = new PigNinths();
        sheetOf(x, 0, 16, 5);
        sheetOf(x, 3, 16, 6);
        due(1, x.unders(0));
        due(5, x.oakIs(0, 1));
        due(1, x.unders(3));
        due(6, x.oakIs(0, 1));
    }

    static void promise30_unders_15_16And17Numbers() {
        for (int n = 15; n <= 17; n++) {
            PigNinths x = new PigNinths();
            x.oak(15, 1, 44);
            x.sheet(0, 16, n);
            for (int i = 0; i < n; i++) {
                x.put(0, i, 20 + i);
            }
            due(Math.min(16, n), x.unders(0));
            due(20, x.oakIs(0, 1));
            due(34, x.oakIs(14, 1));
            due(n == 15 ? 44 : 35, x.oakIs(15, 1));
            due(0, x.told(1));
        }
    }

    static void promise30_unders_ofAFullSheetThereIsNoOak16() {
        PigNinths x = new PigNinths();
        x.sheet(0, 8, 24);
        due(16, x.unders(0));
        due(0, x.told(1));
    }

    static void promise30_unders_upToTheFirstThatIsRefused() {
        PigNinths x = new PigNinths();
        for (int oak = 0; oak < 5; oak++) {
            x.oak(oak, 1, 40 + oak);
        }
        sheetOf(x, 0, 32, 999, 0, 7, 1000, 8);
        due(3, x.unders(0));
        int[] under = {999, 0, 7, 43, 44};
        for (int oak = 0; oak < 5; oak++) {
            due(under[oak], x.oakIs(oak, 1));
        }
    }

    static void promise30_unders_theFirstIsRefused() {
        for (int v : new int[] {-1, 1000, MIN, MAX}) {
            looked(0, x -> sheetOf(x, 3, 32, v, 5, 5), x -> x.unders(3));
        }
    }

    static void promise30_unders_theLastIsRefused() {
        PigNinths x = new PigNinths();
        x.sheet(0, 16, 16);
        x.put(0, 14, 999);
        x.put(0, 15, 1000);
        x.oak(15, 1, 3);
        due(15, x.unders(0));
        due(999, x.oakIs(14, 1));
        due(3, x.oakIs(15, 1));
    }

    static void promise30_unders_from0To999() {
        PigNinths x = new PigNinths();
        sheetOf(x, 0, 32, 0, 999, 1, 998, -1);
        due(4, x.unders(0));
        lie(x, 0, 0, 999, 1, 998);
    }

    static void promise30_unders_aNumberThatIsRefusedIsNoError() {
        PigNinths x = new PigNinths();
        sheetOf(x, 0, 32, -1);
        due(0, x.unders(0));
        for (int k = 1; k <= 6; k++) {
            due(0, x.told(k));
        }
    }

    static void promise30_unders_beyondIsAheadOfNone() {
        // All SHEETS are missing: one that isn't there is BEYOND.
        PigNinths x = new PigNinths();
        due(BEYOND, x.unders(4));
        due(BEYOND, x.unders(-1));
        due(NONE, x.unders(3));
    }

    // ---- promise 31: judge

    /** A SHEET of n numbers that are the PLACES behind 0, 1, .. DAYS AHEAD. */
    private static void places(PigNinths x, int sheet, int bits, int n) {
        x.sheet(sheet, bits, n);
        for (int i = 0; i < n; i++) {
            x.put(sheet, i, x.ahead(i, 0));
        }
    }

    static void promise31_judge_noSuchSheet() {
        for (int sheet : NO_SHEETS) {
            refused(BEYOND, x -> x.judge(sheet));
        }
    }

    static void promise31_judge_aMissingSheet() {
        refused(NONE, x -> x.judge(3));
        refused(NONE, x -> x.sheet(0, 0, 5), x -> x.judge(0));
    }

    static void promise31_judge_anEmptySheetHasNoneThatIsntSo() {
        looked(0, x -> x.sheet(3, 8, 0), x -> x.judge(3));
    }

    static void promise31_judge_aFullSheet() {
        looked(24, x -> places(x, 3, 8, 24), x -> x.judge(3));
    }

    static void promise31_judge_theFirstAndTheLastIsntSo() {
        for (int i : new int[] {0, 1, 22, 23}) {
            PigNinths x = new PigNinths();
            Probe.furnish(x);
            places(x, 3, 32, 24);
            x.put(3, i, x.ahead(i, 0) ^ 1);
            due(i, x.judge(3));
            x.put(3, 23, 99);
            due(i, x.judge(3));
        }
    }

    static void promise31_judge_behind0DaysIsThePlaceNow() {
        PigNinths x = dry();
        x.oak(1, 1, 99);
        sheetOf(x, 0, 8, 0, 1);
        due(2, x.judge(0));
        sheetOf(x, 0, 8, 1, 1);
        due(0, x.judge(0));
        sheetOf(x, 0, 8, 0, 0);
        due(1, x.judge(0));
    }

    static void promise31_judge_placesAreToldByAllBits() {
        PigNinths x = dry();
        x.pig(0, 15);
        x.oak(15, 1, 99);
        sheetOf(x, 0, 8, 15 + 256);
        due(1, x.judge(0));
        sheetOf(x, 0, 16, 15 + 256);
        due(0, x.judge(0));
        sheetOf(x, 0, 16, 15 + 65536);
        due(1, x.judge(0));
        sheetOf(x, 0, 32, 15 + 65536);
        due(0, x.judge(0));
    }

    static void promise31_judge_noSuchPlaceIsNoError() {
        PigNinths x = dry();
        for (int v : new int[] {-1, 16, MIN, MAX}) {
            sheetOf(x, 0, 32, v);
            due(0, x.judge(0));
        }
        due(0, x.told(1));
    }

    static void promise31_judge_beyond9999() {
        PigNinths x = dryAt(9999);
        x.oak(1, 1, 99);
        sheetOf(x, 0, 8, 0, 1);
        due(2, x.judge(0));
        due(0, x.told(3));
    }

    static void promise31_judge_changesNothingFromEachPlace() {
        for (int oak = 0; oak < 16; oak++) {
            int place = oak;
            SetUp told = x -> {
                x.pig(0, place);
                sheetOf(x, 3, 8, place, x.ahead(1, 0), -1);
            };
            looked(2, told, x -> x.judge(3));
        }
    }
}
