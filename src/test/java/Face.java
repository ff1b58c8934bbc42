/** The acts of the face by their numbers, as the document lists them. */
final class Face {
    static final String[] NAMES = {
        "oak", "oakIs", "rain", "farmer", "farmerIs", "as", "trade", "leash", "pig", "feed", "text", "untell", "days",
        "draws", "seed", "then", "ahead", "bestLeash", "bestFeed", "gain", "bestTrade", "share", "whoHid", "voice",
        "body", "sheet", "put", "move", "unders", "judge", "image", "restore", "tell", "check", "count", "told",
    };
    static final int FEED = 9;

    private Face() {
    }

    static int call(PigNinths x, int act, int[] a, long word) {
        switch (act) {
            case 0: return x.oak(a[0], a[1], a[2]);
            case 1: return x.oakIs(a[0], a[1]);
            case 2: return x.rain(a[0]);
            case 3: return x.farmer(a[0], a[1]);
            case 4: return x.farmerIs(a[0], a[1]);
            case 5: return x.as(a[0], a[1]);
            case 6: return x.trade(a[0], a[1]);
            case 7: return x.leash(a[0], a[1], a[2]);
            case 8: return x.pig(a[0], a[1]);
            case 9: return x.feed(word, a[0]);
            case 10: return x.text(a[0]);
            case 11: return x.untell(a[0]);
            case 12: return x.days(a[0]);
            case 13: return x.draws(a[0]);
            case 14: return x.seed(a[0]);
            case 15: return x.then(a[0], a[1], a[2]);
            case 16: return x.ahead(a[0], a[1]);
            case 17: return x.bestLeash(a[0]);
            case 18: return x.bestFeed(a[0]);
            case 19: return x.gain(a[0], a[1]);
            case 20: return x.bestTrade();
            case 21: return x.share(a[0], a[1], a[2]);
            case 22: return x.whoHid(a[0], a[1], a[2]);
            case 23: return x.voice(a[0], a[1], a[2]);
            case 24: return x.body(a[0]);
            case 25: return x.sheet(a[0], a[1], a[2]);
            case 26: return x.put(a[0], a[1], a[2]);
            case 27: return x.move(a[0], a[1], a[2], a[3], a[4]);
            case 28: return x.unders(a[0]);
            case 29: return x.judge(a[0]);
            case 30: return x.image();
            case 31: return x.restore();
            case 32: return x.tell(a[0]);
            case 33: return x.check();
            case 34: return x.count(a[0]);
            default: return x.told(a[0]);
        }
    }
}
