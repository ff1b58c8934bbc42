import java.util.Arrays;

/** Nine farmers, one pig, a wood of oaks: what each call must do stands in ../shared/DOC.md. */
public final class PigNinths {
    private static final int LOW = -1000000000;
    private static final int BEYOND = 1;
    private static final int NONE = 2;
    private static final int STATE = 3;
    private static final int FULL = 4;
    private static final int KIND = 5;
    private static final int PARTED = 6;

    private static final int OAKS = 16;
    private static final int FARMERS = 9;
    private static final int KINDS = 7;
    private static final int HIDER = 3;
    private static final int NO_WAY = 4;
    private static final int MOST_UNDER = 999;
    private static final int MOST_PURSE = 99999999;
    private static final int LAST_DAY = 9999;
    private static final int MOST_DAYS = 45;
    private static final int TAPE_ROOM = 60;
    private static final int WAIT_ROOM = 24;
    private static final int TRACE_ROOM = 30;
    private static final int SHEET_ROOM = 24;
    private static final int SHEETS = 4;
    private static final int USES = 2;
    private static final int TRADE_DAYS = 18;
    private static final int FEED_DAYS = 10;
    private static final int LEASH_ROWS = 625;
    private static final int BY_KIND = -1;
    private static final int[] ABOVE = {-1, 0, 0, 0, 1, 2, 0};
    private static final int[] ROW_PLACES = {125, 25, 5, 1};

    private final World now = new World();
    private final Row tape = new Row(TAPE_ROOM);
    private final Row waiting = new Row(WAIT_ROOM);
    private final World keptWorld = new World();
    private final Row keptTape = new Row(TAPE_ROOM);
    private final Row keptWaiting = new Row(WAIT_ROOM);
    private int images = 0;
    // Made once and used again by each call that looks ahead, so that no call makes objects.
    private final World side = new World();
    private final World trial = new World();
    private final int[] best = new int[5];
    private final int[] finds = new int[TRADE_DAYS];
    private final Reader reader = new Reader();
    private final Voices voices = new Voices();
    private final Sheet[] sheets = new Sheet[SHEETS];
    private final int[] errors = new int[PARTED + 1];

    public PigNinths() {
        for (int i = 0; i < SHEETS; i++) {
            sheets[i] = new Sheet();
        }
    }

    // ---- the wood, farmers, the pig

    public int oak(int oak, int what, int v) {
        if (!isOak(oak) || !within(what, 0, 1)) {
            return error(BEYOND);
        }
        if (what == 0) {
            if (!isFarmer(v)) {
                return error(BEYOND);
            }
            int was = now.owner[oak];
            now.owner[oak] = v;
            return was;
        }
        if (!within(v, 0, MOST_UNDER)) {
            return error(BEYOND);
        }
        int was = now.under[oak];
        now.under[oak] = v;
        return was;
    }

    public int oakIs(int oak, int what) {
        if (!isOak(oak) || !within(what, 0, 2)) {
            return error(BEYOND);
        }
        if (what == 0) {
            return now.owner[oak];
        }
        return what == 1 ? now.under[oak] : now.smellOf(oak);
    }

    public int rain(int v) {
        if (!within(v, 0, 9)) {
            return error(BEYOND);
        }
        int was = now.rain;
        now.rain = v;
        return was;
    }

    public int farmer(int farmer, int km) {
        if (!isFarmer(farmer) || !within(km, 0, 10 * KINDS - 1)) {
            return error(BEYOND);
        }
        int was = 10 * now.kind[farmer] + now.mark[farmer];
        now.kind[farmer] = km / 10;
        now.mark[farmer] = km % 10;
        return was;
    }

    public int farmerIs(int farmer, int what) {
        if (!isFarmer(farmer) || !within(what, 0, 8)) {
            return error(BEYOND);
        }
        return now.ofFarmer(farmer, what);
    }

    public int as(int farmer, int kind) {
        if (!isFarmer(farmer) || !within(kind, 0, KINDS - 1)) {
            return error(BEYOND);
        }
        if (!isOfKind(now.kind[farmer], kind)) {
            return error(KIND);
        }
        return now.mark[farmer];
    }

    public int trade(int one, int other) {
        if (!isFarmer(one) || !isFarmer(other)) {
            return error(BEYOND);
        }
        now.changeTurns(one, other);
        return now.turn[one];
    }

    public int leash(int farmer, int i, int way) {
        if (!isFarmer(farmer) || !within(i, 0, 3) || !within(way, 0, NO_WAY)) {
            return error(BEYOND);
        }
        int was = now.leash[4 * farmer + i];
        now.leash[4 * farmer + i] = way;
        return was;
    }

    public int pig(int what, int v) {
        if (what == 0 && isOak(v)) {
            int was = now.place;
            now.place = v;
            return was;
        }
        if (what == 1 && within(v, 0, 9)) {
            int was = now.hunger;
            now.hunger = v;
            return was;
        }
        return error(BEYOND);
    }

    // ---- texts

    public int feed(long word, int n) {
        if (!within(n, 1, 8)) {
            return error(BEYOND);
        }
        if (tape.size + n > TAPE_ROOM) {
            return error(FULL);
        }
        for (int i = 0; i < n; i++) {
            tape.append((int) (word >>> (8 * i)) & 255);
        }
        return tape.size;
    }

    public int text(int use) {
        if (!within(use, 0, USES - 1)) {
            return error(BEYOND);
        }
        int fault = reader.read(tape, use);
        tape.size = 0;
        if (fault >= 0) {
            return -10 - fault;
        }
        now.textOf(use).code.takeFrom(reader.code);
        return 1;
    }

    public int untell(int use) {
        if (!within(use, 0, USES - 1)) {
            return error(BEYOND);
        }
        Text old = now.textOf(use);
        int was = old.isThere() ? 1 : 0;
        old.code.size = 0;
        return was;
    }

    // ---- days

    public int days(int n) {
        if (!within(n, 1, MOST_DAYS)) {
            return error(BEYOND);
        }
        if (now.day + n > LAST_DAY) {
            return error(STATE);
        }
        return now.goOn(n);
    }

    public int draws(int n) {
        if (!within(n, 1, MOST_DAYS)) {
            return error(BEYOND);
        }
        if (now.day + n > LAST_DAY) {
            return error(STATE);
        }
        int sum = 0;
        for (int i = 0; i < n; i++) {
            now.drawRain();
            sum += now.oneDay(BY_KIND);
        }
        return sum;
    }

    public int seed(int v) {
        int was = now.drawn;
        now.drawn = v;
        return was;
    }

    // ---- what would be

    public int then(int n, int farmer, int what) {
        if (!within(n, 0, MOST_DAYS) || !isFarmer(farmer) || !within(what, 0, 8)) {
            return error(BEYOND);
        }
        side.takeFrom(now);
        side.goOn(n);
        return side.ofFarmer(farmer, what);
    }

    public int ahead(int n, int what) {
        if (!within(n, 0, MOST_DAYS) || !within(what, 0, 3)) {
            return error(BEYOND);
        }
        side.takeFrom(now);
        side.goOn(n);
        switch (what) {
            case 0:
                return side.place;
            case 1:
                return side.hunger;
            case 2:
                return sum(side.under);
            default:
                return side.richestOak();
        }
    }

    public int bestLeash(int what) {
        if (!within(what, 0, 4)) {
            return error(BEYOND);
        }
        seekLeash();
        return best[what];
    }

    public int bestFeed(int what) {
        if (!within(what, 0, 2)) {
            return error(BEYOND);
        }
        int farmer = now.whoHasIt();
        int feed = 0;
        int purse = -1;
        int all = 0;
        int mostOfAll = 0;
        for (int tried = 0; tried <= 9; tried++) {
            side.takeFrom(now);
            side.oneDay(tried);
            side.goOn(FEED_DAYS - 1);
            int together = sum(side.purse);
            mostOfAll = Math.max(mostOfAll, together);
            if (side.purse[farmer] > purse) {
                feed = tried;
                purse = side.purse[farmer];
                all = together;
            }
        }
        if (what == 0) {
            return feed;
        }
        return what == 1 ? purse : mostOfAll - all;
    }

    public int gain(int one, int other) {
        if (!isFarmer(one) || !isFarmer(other) || one == other) {
            return error(BEYOND);
        }
        side.takeFrom(now);
        side.goOn(TRADE_DAYS);
        trial.takeFrom(now);
        trial.changeTurns(one, other);
        trial.goOn(TRADE_DAYS);
        return trial.purse[one] - side.purse[one];
    }

    public int bestTrade() {
        side.takeFrom(now);
        side.goOn(TRADE_DAYS);
        int pair = -1;
        int most = 0;
        for (int one = 0; one < FARMERS; one++) {
            for (int other = one + 1; other < FARMERS; other++) {
                trial.takeFrom(now);
                trial.changeTurns(one, other);
                trial.goOn(TRADE_DAYS);
                int ofOne = trial.purse[one] - side.purse[one];
                int ofOther = trial.purse[other] - side.purse[other];
                if (ofOne > 0 && ofOther > 0 && ofOne + ofOther > most) {
                    most = ofOne + ofOther;
                    pair = 10 * one + other;
                }
            }
        }
        return pair < 0 ? error(NONE) : pair;
    }

    public int share(int farmer, int law, int n) {
        if (!isFarmer(farmer) || !within(law, 0, 2) || !within(n, 1, MOST_DAYS)) {
            return error(BEYOND);
        }
        side.takeFrom(now);
        int byDay = 0;
        int byWood = 0;
        for (int i = 0; i < n; i++) {
            int haver = side.whoHasIt();
            int find = side.oneDay(BY_KIND);
            byDay += haver == farmer ? find : 0;
            byWood += side.dugFor(farmer);
        }
        if (law == 0) {
            return side.purse[farmer] - now.purse[farmer];
        }
        return law == 1 ? byDay : byWood;
    }

    public int whoHid(int sheet, int n, int what) {
        if (!isSheet(sheet) || !within(n, 1, TRADE_DAYS) || !within(what, 0, 2)) {
            return error(BEYOND);
        }
        Sheet purses = sheets[sheet];
        if (purses.isMissing() || purses.size < FARMERS) {
            return error(NONE);
        }
        int bits = 0;
        int first = -1;
        int firstMark = -1;
        for (int farmer = 0; farmer < FARMERS; farmer++) {
            int mark = leastMark(farmer, purses, n);
            if (mark >= 0) {
                bits |= 1 << farmer;
                if (first < 0) {
                    first = farmer;
                    firstMark = mark;
                }
            }
        }
        if (what == 0) {
            return bits;
        }
        if (first < 0) {
            return error(NONE);
        }
        return what == 1 ? first : firstMark;
    }

    // ---- voices, sheets, images, what is told

    public int voice(int farmer, int voice, int x) {
        if (!isFarmer(farmer) || !within(voice, 0, 3)) {
            return error(BEYOND);
        }
        int answer = voices.answer(farmer, now.kind[farmer], now.mark[farmer], voice, x);
        return voices.parted ? error(PARTED) : answer;
    }

    public int body(int i) {
        if (!within(i, 0, voices.trace.size - 1)) {
            return error(NONE);
        }
        return voices.trace.at(i);
    }

    public int sheet(int sheet, int bits, int n) {
        if (!isSheet(sheet) || (bits != 0 && bits != 8 && bits != 16 && bits != 32)) {
            return error(BEYOND);
        }
        if (bits != 0 && n < 0) {
            return error(STATE);
        }
        if (bits != 0 && n > SHEET_ROOM) {
            return error(BEYOND);
        }
        sheets[sheet].becomes(bits, n);
        return 1;
    }

    public int put(int sheet, int i, int v) {
        if (!isSheet(sheet)) {
            return error(BEYOND);
        }
        Sheet changed = sheets[sheet];
        if (changed.isMissing()) {
            return error(NONE);
        }
        if (!within(i, 0, changed.size - 1)) {
            return error(BEYOND);
        }
        changed.hold(i, v);
        return 1;
    }

    public int move(int sheet, int i, int other, int j, int n) {
        if (!isSheet(sheet) || !isSheet(other)) {
            return error(BEYOND);
        }
        Sheet from = sheets[sheet];
        Sheet to = sheets[other];
        if (from.isMissing() || to.isMissing()) {
            return error(NONE);
        }
        if (from.bits != to.bits) {
            return error(KIND);
        }
        if (!from.holdsPart(i, n) || !to.holdsPart(j, n)) {
            return error(BEYOND);
        }
        System.arraycopy(from.numbers, i, to.numbers, j, n);
        return n;
    }

    public int unders(int sheet) {
        if (!isSheet(sheet)) {
            return error(BEYOND);
        }
        Sheet told = sheets[sheet];
        if (told.isMissing()) {
            return error(NONE);
        }
        int laid = 0;
        int most = Math.min(told.size, OAKS);
        while (laid < most && within(told.at(laid), 0, MOST_UNDER)) {
            now.under[laid] = told.at(laid);
            laid++;
        }
        return laid;
    }

    public int judge(int sheet) {
        if (!isSheet(sheet)) {
            return error(BEYOND);
        }
        Sheet places = sheets[sheet];
        if (places.isMissing()) {
            return error(NONE);
        }
        side.takeFrom(now);
        for (int i = 0; i < places.size; i++) {
            if (places.at(i) != side.place) {
                return i;
            }
            side.oneDay(BY_KIND);
        }
        return places.size;
    }

    public int image() {
        keptWorld.takeFrom(now);
        keptTape.takeFrom(tape);
        keptWaiting.takeFrom(waiting);
        images++;
        return images;
    }

    public int restore() {
        if (images == 0) {
            return error(NONE);
        }
        now.takeFrom(keptWorld);
        tape.takeFrom(keptTape);
        waiting.takeFrom(keptWaiting);
        return now.day;
    }

    public int tell(int v) {
        if (waiting.size >= WAIT_ROOM) {
            return error(FULL);
        }
        waiting.append(v);
        return waiting.size;
    }

    public int check() {
        int n = waiting.size;
        waiting.size = 0;
        side.takeFrom(now);
        for (int i = 0; i < n; i++) {
            // The numbers still stand in the row: an empty row only forgets how many it has.
            if (waiting.numbers[i] != side.oneDay(BY_KIND)) {
                return 1 + i;
            }
        }
        return 0;
    }

    public int count(int what) {
        switch (what) {
            case 0:
                return now.day;
            case 1:
                return now.whoHasIt();
            case 2:
                return now.place;
            case 3:
                return now.hunger;
            case 4:
                return now.rain;
            case 5:
                return sum(now.under);
            case 6:
                return sum(now.purse);
            case 7:
                return sum(now.hid);
            case 8:
                return tape.size;
            case 9:
                return waiting.size;
            case 10:
                return voices.trace.size;
            case 11:
                return now.drawn;
            default:
                return error(BEYOND);
        }
    }

    public int told(int k) {
        if (!within(k, 1, PARTED)) {
            return error(BEYOND);
        }
        return errors[k];
    }

    private int error(int k) {
        errors[k]++;
        return LOW - k;
    }

    /** Leaves in best THE FIND and the four WAYS of the BEST LEASH. */
    private void seekLeash() {
        side.takeFrom(now);
        side.morning();
        trial.takeFrom(side);
        int farmer = side.whoHasIt();
        best[0] = -1;
        for (int row = 0; row < LEASH_ROWS; row++) {
            trial.takeWoodFrom(side);
            for (int i = 0; i < 4; i++) {
                trial.leash[4 * farmer + i] = row / ROW_PLACES[i] % 5;
            }
            int find = trial.hours(farmer);
            // Rows come in their order: only a greater one takes the place of one ahead.
            if (find > best[0]) {
                best[0] = find;
                System.arraycopy(trial.leash, 4 * farmer, best, 1, 4);
            }
        }
    }

    /** The least m with which a FARMER alone, as a HIDER, explains the PURSES; -1: with none. */
    private int leastMark(int farmer, Sheet purses, int n) {
        side.takeFrom(now);
        side.kind[farmer] = HIDER;
        // A HIDER feeds alike with every m, so the pig goes alike: it is led once for all m.
        for (int i = 0; i < n; i++) {
            finds[i] = side.oneDay(BY_KIND);
        }
        for (int mark = 0; mark <= 9; mark++) {
            trial.takeFrom(now);
            trial.kind[farmer] = HIDER;
            trial.mark[farmer] = mark;
            for (int i = 0; i < n; i++) {
                trial.partOut(trial.whoHasIt(), finds[i]);
                trial.day++;
            }
            if (purses.startsWith(trial.purse)) {
                return mark;
            }
        }
        return -1;
    }

    private static boolean within(int v, int least, int most) {
        return v >= least && v <= most;
    }

    private static boolean isOak(int oak) {
        return within(oak, 0, OAKS - 1);
    }

    private static boolean isFarmer(int farmer) {
        return within(farmer, 0, FARMERS - 1);
    }

    private static boolean isSheet(int sheet) {
        return within(sheet, 0, SHEETS - 1);
    }

    private static boolean isOfKind(int kind, int wanted) {
        int at = kind;
        for (int step = 0; step < KINDS && at >= 0; step++) {
            if (at == wanted) {
                return true;
            }
            at = ABOVE[at];
        }
        return false;
    }

    private static int sum(int[] numbers) {
        int all = 0;
        for (int number : numbers) {
            all += number;
        }
        return all;
    }

    /** The wood, the farmers, the pig and the texts: all that a DAY depends on. */
    private static final class World {
        private static final int LEASHED_HOURS = 4;
        private static final int FARMER_FEEDS = 4;

        final int[] owner = new int[OAKS];
        final int[] under = new int[OAKS];
        final int[] kind = new int[FARMERS];
        final int[] mark = new int[FARMERS];
        final int[] purse = new int[FARMERS];
        final int[] hid = new int[FARMERS];
        final int[] turn = new int[FARMERS];
        final int[] leash = new int[4 * FARMERS];
        final Text feeding = new Text();
        final Text nose = new Text();
        int rain = 1;
        int place = 0;
        int hunger = 5;
        int day = 0;
        int drawn = 1;
        // Of the DAY that goes on, or went by last.
        final int[] smell = new int[OAKS];
        final int[] dug = new int[OAKS];

        World() {
            for (int oak = 0; oak < OAKS; oak++) {
                owner[oak] = oak % FARMERS;
            }
            for (int farmer = 0; farmer < FARMERS; farmer++) {
                turn[farmer] = farmer;
            }
            Arrays.fill(leash, NO_WAY);
        }

        void takeFrom(World other) {
            System.arraycopy(other.owner, 0, owner, 0, OAKS);
            System.arraycopy(other.kind, 0, kind, 0, FARMERS);
            System.arraycopy(other.mark, 0, mark, 0, FARMERS);
            System.arraycopy(other.purse, 0, purse, 0, FARMERS);
            System.arraycopy(other.hid, 0, hid, 0, FARMERS);
            System.arraycopy(other.turn, 0, turn, 0, FARMERS);
            System.arraycopy(other.leash, 0, leash, 0, 4 * FARMERS);
            feeding.code.takeFrom(other.feeding.code);
            nose.code.takeFrom(other.nose.code);
            rain = other.rain;
            hunger = other.hunger;
            day = other.day;
            drawn = other.drawn;
            takeWoodFrom(other);
        }

        /** Takes what the hours of a DAY change, and no more. */
        void takeWoodFrom(World other) {
            System.arraycopy(other.under, 0, under, 0, OAKS);
            System.arraycopy(other.smell, 0, smell, 0, OAKS);
            place = other.place;
        }

        Text textOf(int use) {
            return use == 0 ? feeding : nose;
        }

        int ofFarmer(int farmer, int what) {
            switch (what) {
                case 0:
                    return kind[farmer];
                case 1:
                    return mark[farmer];
                case 2:
                    return purse[farmer];
                case 3:
                    return hid[farmer];
                case 4:
                    return turn[farmer];
                default:
                    return leash[4 * farmer + within4(what - 5)];
            }
        }

        void changeTurns(int one, int other) {
            int kept = turn[one];
            turn[one] = turn[other];
            turn[other] = kept;
        }

        int whoHasIt() {
            int today = day % FARMERS;
            int farmer = 0;
            while (farmer < FARMERS - 1 && turn[farmer] != today) {
                farmer++;
            }
            return farmer;
        }

        int richestOak() {
            int most = 0;
            for (int oak = 1; oak < OAKS; oak++) {
                if (under[oak] > under[most]) {
                    most = oak;
                }
            }
            return most;
        }

        int dugFor(int farmer) {
            int all = 0;
            for (int oak = 0; oak < OAKS; oak++) {
                all += owner[oak] == farmer ? dug[oak] : 0;
            }
            return all;
        }

        void drawRain() {
            drawn = drawn * 1103515245 + 12345;
            rain = (drawn >>> 8) % 10;
        }

        /** Lets n DAYS go by: THE FINDS of these together. */
        int goOn(int n) {
            int all = 0;
            for (int i = 0; i < n; i++) {
                all += oneDay(BY_KIND);
            }
            return all;
        }

        /** Lets one DAY go by, fed is the feed of this one (or BY_KIND): THE FIND. */
        int oneDay(int fed) {
            int farmer = whoHasIt();
            morning();
            int find = hours(farmer);
            partOut(farmer, find);
            hunger = 9 - (fed == BY_KIND ? feedsOf(farmer, find) : fed);
            day++;
            return find;
        }

        void morning() {
            for (int oak = 0; oak < OAKS; oak++) {
                under[oak] = Math.min(MOST_UNDER, under[oak] + rain);
                smell[oak] = smellOf(oak);
            }
        }

        /** The hours behind a morning: THE FIND. */
        int hours(int farmer) {
            Arrays.fill(dug, 0);
            int find = 0;
            for (int hour = 0; hour < hunger; hour++) {
                int led = hour < LEASHED_HOURS ? beside(place, leash[4 * farmer + hour]) : -1;
                place = led >= 0 ? led : bestSmell();
                int got = Math.min(2 + hunger, under[place]);
                under[place] -= got;
                dug[place] += got;
                find += got;
                smell[place] = smellOf(place);
            }
            return find;
        }

        int smellOf(int oak) {
            return nose.isThere() ? nose.value(under[oak], oak, hunger) : under[oak];
        }

        /** Of the OAKS beside the pig and its own that one that smells most, the least of several. */
        private int bestSmell() {
            int most = -1;
            for (int oak = 0; oak < OAKS; oak++) {
                int rows = Math.abs(oak / 4 - place / 4);
                int columns = Math.abs(oak % 4 - place % 4);
                if (rows + columns <= 1 && (most < 0 || smell[oak] > smell[most])) {
                    most = oak;
                }
            }
            return most < 0 ? place : most;
        }

        void partOut(int farmer, int find) {
            int hidden = kind[farmer] == HIDER ? find * mark[farmer] / 9 : 0;
            int rest = find - hidden;
            int ninth = rest / FARMERS;
            for (int each = 0; each < FARMERS; each++) {
                toPurse(each, ninth);
            }
            toPurse(farmer, hidden + rest % FARMERS);
            hid[farmer] = Math.min(MOST_PURSE, hid[farmer] + hidden);
        }

        private void toPurse(int farmer, int truffles) {
            purse[farmer] = Math.min(MOST_PURSE, purse[farmer] + truffles);
        }

        private int feedsOf(int farmer, int find) {
            int m = mark[farmer];
            switch (kind[farmer]) {
                case 1:
                    return held(FARMER_FEEDS - m / 2);
                case 2:
                    return held(FARMER_FEEDS + m / 2);
                case 4:
                    return held(FARMER_FEEDS - m / 2 - 2);
                case 5:
                    return held(2 * (FARMER_FEEDS + m / 2));
                case 6:
                    return feeding.isThere() ? held(feeding.value(find, hunger, m)) : FARMER_FEEDS;
                default:
                    return FARMER_FEEDS;
            }
        }

        private static int held(int feed) {
            return Math.max(0, Math.min(9, feed));
        }

        private static int within4(int i) {
            return Math.max(0, Math.min(3, i));
        }

        /** The OAK that lies one WAY from another one; -1: it is no way, or leaves the wood. */
        private static int beside(int oak, int way) {
            switch (way) {
                case 0:
                    return oak >= 4 ? oak - 4 : -1;
                case 1:
                    return oak % 4 < 3 ? oak + 1 : -1;
                case 2:
                    return oak < OAKS - 4 ? oak + 4 : -1;
                case 3:
                    return oak % 4 > 0 ? oak - 1 : -1;
                default:
                    return -1;
            }
        }
    }

    /** So many numbers of a row that has room for more. */
    private static final class Row {
        final int[] numbers;
        int size = 0;

        Row(int room) {
            numbers = new int[Math.max(0, room)];
        }

        int at(int i) {
            return i >= 0 && i < size ? numbers[i] : 0;
        }

        /** One more number; nothing, where there is no room for it. */
        void append(int v) {
            if (size < numbers.length) {
                numbers[size] = v;
                size++;
            }
        }

        void takeFrom(Row other) {
            size = Math.min(other.size, numbers.length);
            System.arraycopy(other.numbers, 0, numbers, 0, size);
        }
    }

    /** A TEXT as it is worked out: numbers and names first, then the sign that joins them. */
    private static final class Text {
        static final int FIRST_NAME = 10000;
        static final int FIRST_SIGN = 20000;

        final Row code = new Row(TAPE_ROOM);
        private final int[] stack = new int[TAPE_ROOM];

        boolean isThere() {
            return code.size > 0;
        }

        int value(int first, int second, int third) {
            int top = 0;
            for (int i = 0; i < code.size; i++) {
                int c = code.at(i);
                if (c < FIRST_SIGN) {
                    if (top < stack.length) {
                        stack[top] = named(c, first, second, third);
                        top++;
                    }
                } else if (c == FIRST_SIGN + '!') {
                    if (top >= 1) {
                        stack[top - 1] = stack[top - 1] == 0 ? 1 : 0;
                    }
                } else if (top >= 2) {
                    top--;
                    stack[top - 1] = joined(c - FIRST_SIGN, stack[top - 1], stack[top]);
                }
            }
            return top >= 1 ? stack[top - 1] : 0;
        }

        private static int named(int c, int first, int second, int third) {
            switch (c) {
                case FIRST_NAME:
                    return first;
                case FIRST_NAME + 1:
                    return second;
                case FIRST_NAME + 2:
                    return third;
                default:
                    return c;
            }
        }

        private static int joined(int sign, int a, int b) {
            switch (sign) {
                case '|':
                    return a != 0 || b != 0 ? 1 : 0;
                case '&':
                    return a != 0 && b != 0 ? 1 : 0;
                case '<':
                    return a < b ? 1 : 0;
                case '=':
                    return a == b ? 1 : 0;
                case '>':
                    return a > b ? 1 : 0;
                case '+':
                    return a + b;
                case '-':
                    return a - b;
                case '*':
                    return a * b;
                case '/':
                    return b == 0 ? 0 : a / b;
                default:
                    return b == 0 ? 0 : a % b;
            }
        }
    }

    /** Reads a TEXT from THE TAPE: each part answers whether it stands, else at is the FAULT. */
    private static final class Reader {
        private static final int MOST_OPEN = 5;
        private static final int MOST_DIGITS = 4;
        private static final int NAMES = 3;
        private static final char[] NAMES_OF_USES = {'f', 'h', 'm', 'u', 'a', 'h'};

        final Row code = new Row(TAPE_ROOM);
        private final Row bytes = new Row(TAPE_ROOM);
        private int names = 0;
        private int at = 0;

        /** The FAULT; -1: there is none, and code has the TEXT. */
        int read(Row tape, int use) {
            bytes.takeFrom(tape);
            names = NAMES * use;
            at = 0;
            code.size = 0;
            boolean stands = either(0) && at == bytes.size;
            return stands ? -1 : at;
        }

        private boolean sees(char sign) {
            return at < bytes.size && bytes.at(at) == sign;
        }

        private boolean seesDigit() {
            return at < bytes.size && bytes.at(at) >= '0' && bytes.at(at) <= '9';
        }

        private boolean either(int open) {
            if (!both(open)) {
                return false;
            }
            while (at < bytes.size && sees('|')) {
                at++;
                if (!both(open)) {
                    return false;
                }
                code.append(Text.FIRST_SIGN + '|');
            }
            return true;
        }

        private boolean both(int open) {
            if (!compared(open)) {
                return false;
            }
            while (at < bytes.size && sees('&')) {
                at++;
                if (!compared(open)) {
                    return false;
                }
                code.append(Text.FIRST_SIGN + '&');
            }
            return true;
        }

        private boolean compared(int open) {
            if (!added(open)) {
                return false;
            }
            if (sees('<') || sees('=') || sees('>')) {
                int sign = bytes.at(at);
                at++;
                if (!added(open)) {
                    return false;
                }
                code.append(Text.FIRST_SIGN + sign);
            }
            return true;
        }

        private boolean added(int open) {
            if (!multiplied(open)) {
                return false;
            }
            while (at < bytes.size && (sees('+') || sees('-'))) {
                int sign = bytes.at(at);
                at++;
                if (!multiplied(open)) {
                    return false;
                }
                code.append(Text.FIRST_SIGN + sign);
            }
            return true;
        }

        private boolean multiplied(int open) {
            if (!single(open)) {
                return false;
            }
            while (at < bytes.size && (sees('*') || sees('/') || sees('%'))) {
                int sign = bytes.at(at);
                at++;
                if (!single(open)) {
                    return false;
                }
                code.append(Text.FIRST_SIGN + sign);
            }
            return true;
        }

        /** A number, a name, or what is opened: open are the signs ! and ( around it. */
        private boolean single(int open) {
            if (seesDigit()) {
                number();
                return true;
            }
            if (readsName()) {
                return true;
            }
            if (open >= MOST_OPEN) {
                return false;
            }
            if (sees('!')) {
                at++;
                if (!single(open + 1)) {
                    return false;
                }
                code.append(Text.FIRST_SIGN + '!');
                return true;
            }
            return sees('(') && enclosed(open + 1);
        }

        private boolean enclosed(int open) {
            at++;
            if (!either(open) || !sees(')')) {
                return false;
            }
            at++;
            return true;
        }

        private void number() {
            int value = 0;
            for (int digits = 0; digits < MOST_DIGITS && seesDigit(); digits++) {
                value = 10 * value + bytes.at(at) - '0';
                at++;
            }
            code.append(value);
        }

        private boolean readsName() {
            for (int name = 0; name < NAMES; name++) {
                if (sees(NAMES_OF_USES[names + name])) {
                    code.append(Text.FIRST_NAME + name);
                    at++;
                    return true;
                }
            }
            return false;
        }
    }

    /** The VOICES of one FARMER at a time, and THE TRACE of the latest. */
    private static final class Voices {
        private static final int LEADS = 0;
        private static final int FEEDS = 1;
        private static final int HIDES = 2;
        private static final int PARTS = 3;
        private static final int MOST_DEPTH = 40;
        // The numbers of the BODIES that a KIND has of its own, four VOICES a KIND; 0: none.
        private static final int[] BODIES = {
            10, 11, 12, 13,
            20, 0, 0, 21,
            0, 30, 0, 0,
            0, 0, 40, 0,
            50, 0, 51, 0,
            0, 60, 0, 0,
            70, 71, 0, 0,
        };

        final Row trace = new Row(TRACE_ROOM);
        boolean parted = false;
        private int k = 0;
        private int m = 0;
        private int ownKind = 0;

        int answer(int number, int kind, int mark, int voice, int x) {
            trace.size = 0;
            parted = false;
            k = number;
            m = mark;
            ownKind = kind;
            return own(voice, x, 0);
        }

        private int own(int voice, int x, int depth) {
            return from(ownKind, voice, x, depth + 1);
        }

        private int above(int kind, int voice, int x, int depth) {
            return from(ABOVE[kind], voice, x, depth + 1);
        }

        /** Works out the BODY of a KIND, or that of the next KIND above that has one. */
        private int from(int kind, int voice, int x, int depth) {
            int at = kind;
            for (int step = 0; step < KINDS && at >= 0; step++) {
                int number = BODIES[4 * at + voice];
                if (number != 0) {
                    return workedOut(number, at, x, depth);
                }
                at = ABOVE[at];
            }
            return 0;
        }

        private int workedOut(int number, int kind, int x, int depth) {
            // What is PARTED ends at once: no BODY begins behind it.
            if (parted || depth > MOST_DEPTH) {
                return 0;
            }
            trace.append(number);
            switch (number) {
                case 10:
                    return x + k;
                case 11:
                    return own(LEADS, x, depth) * 2;
                case 12:
                    return own(FEEDS, x, depth) - m;
                case 13:
                    return partedBy(x, m - k);
                case 20:
                    return above(kind, LEADS, x, depth) - 4;
                case 21:
                    return above(kind, PARTS, x, depth) + own(FEEDS, 1, depth);
                case 30:
                    return 0 - above(kind, FEEDS, x, depth);
                case 40:
                    return above(kind, HIDES, x / 2, depth);
                case 50:
                    return above(kind, LEADS, x, depth) * 3;
                case 51:
                    return above(kind, HIDES, x, depth) ^ k;
                case 60:
                    return above(kind, FEEDS, x + 1, depth);
                case 70:
                    return 9;
                default:
                    return above(kind, FEEDS, x, depth) + m;
            }
        }

        private int partedBy(int x, int divisor) {
            if (divisor == 0) {
                parted = true;
                return 0;
            }
            return x / divisor;
        }
    }

    /** A row of numbers of 8, 16 or 32 bits, each with its sign, or (0 bits) a missing one. */
    private static final class Sheet {
        final int[] numbers = new int[SHEET_ROOM];
        int bits = 0;
        int size = 0;

        boolean isMissing() {
            return bits == 0;
        }

        void becomes(int newBits, int n) {
            bits = newBits;
            size = newBits == 0 ? 0 : Math.max(0, Math.min(SHEET_ROOM, n));
            Arrays.fill(numbers, 0);
        }

        int at(int i) {
            return i >= 0 && i < size ? numbers[i] : 0;
        }

        void hold(int i, int v) {
            if (i >= 0 && i < size) {
                // What does not fit is shifted out; the highest bit that stays is the sign.
                int unused = 32 - bits;
                numbers[i] = v << unused >> unused;
            }
        }

        boolean holdsPart(int i, int n) {
            return n >= 0 && i >= 0 && n <= size && i <= size - n;
        }

        boolean startsWith(int[] others) {
            for (int i = 0; i < others.length; i++) {
                if (i >= size || numbers[i] != others[i]) {
                    return false;
                }
            }
            return true;
        }
    }
}
