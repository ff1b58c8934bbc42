import java.util.ArrayList;
import java.util.Arrays;
import java.util.List;

/**
 * The document once more, told in another way (copies, exceptions, classes of kinds, texts by their
 * spans), slow and plain: the class must answer alike.
 */
final class Model {
    static final int LOW = -1000000000;

    private static final class Refused extends RuntimeException {
        private static final long serialVersionUID = 1L;
        final int k;

        Refused(int k) {
            super(null, null, false, false);
            this.k = k;
        }
    }

    private static void need(boolean is, int k) {
        if (!is) {
            throw new Refused(k);
        }
    }

    private static void in(long v, long least, long most) {
        need(v >= least && v <= most, 1);
    }

    // ---- kinds, by classes

    private static class Farmer {
        int k;
        int m;
        List<Integer> trace;

        int feeds(State s, int find) {
            return 4;
        }

        int hides(int find) {
            return 0;
        }

        void began(int body) {
            if (trace.size() < 30) {
                trace.add(body);
            }
        }

        int vLeads(int x) {
            began(10);
            return x + k;
        }

        int vFeeds(int x) {
            began(11);
            return vLeads(x) * 2;
        }

        int vHides(int x) {
            began(12);
            return vFeeds(x) - m;
        }

        int vParts(int x) {
            began(13);
            need(m - k != 0, 6);
            return x / (m - k);
        }
    }

    private static class Miser extends Farmer {
        @Override int feeds(State s, int find) {
            return super.feeds(s, find) - m / 2;
        }

        @Override int vLeads(int x) {
            began(20);
            return super.vLeads(x) - 4;
        }

        @Override int vParts(int x) {
            began(21);
            return super.vParts(x) + vFeeds(1);
        }
    }

    private static class Feeder extends Farmer {
        @Override int feeds(State s, int find) {
            return super.feeds(s, find) + m / 2;
        }

        @Override int vFeeds(int x) {
            began(30);
            return 0 - super.vFeeds(x);
        }
    }

    private static class Hider extends Farmer {
        @Override int hides(int find) {
            return find * m / 9;
        }

        @Override int vHides(int x) {
            began(40);
            return super.vHides(x / 2);
        }
    }

    private static class Starver extends Miser {
        @Override int feeds(State s, int find) {
            return super.feeds(s, find) - 2;
        }

        @Override int vLeads(int x) {
            began(50);
            return super.vLeads(x) * 3;
        }

        @Override int vHides(int x) {
            began(51);
            return super.vHides(x) ^ k;
        }
    }

    private static class Pamperer extends Feeder {
        @Override int feeds(State s, int find) {
            return 2 * super.feeds(s, find);
        }

        @Override int vFeeds(int x) {
            began(60);
            return super.vFeeds(x + 1);
        }
    }

    private static class Told extends Farmer {
        @Override int feeds(State s, int find) {
            return s.texts[0] == null ? super.feeds(s, find) : s.texts[0].value(find, s.hunger, m);
        }

        @Override int vLeads(int x) {
            began(70);
            return 9;
        }

        @Override int vFeeds(int x) {
            began(71);
            return super.vFeeds(x) + m;
        }
    }

    private static Farmer farmerOf(int kind, int k, int m) {
        Farmer[] all = {new Farmer(), new Miser(), new Feeder(), new Hider(), new Starver(), new Pamperer(), new Told()};
        all[kind].k = k;
        all[kind].m = m;
        return all[kind];
    }

    private static final Class<?>[] KINDS = {
        Farmer.class, Miser.class, Feeder.class, Hider.class, Starver.class, Pamperer.class, Told.class,
    };

    // ---- texts, by spans

    /** A node: a sign with one or two parts, a number (sign 'n') or a name (sign 'x'). */
    private static final class Node {
        final char sign;
        final int number;
        final Node left;
        final Node right;

        Node(char sign, int number, Node left, Node right) {
            this.sign = sign;
            this.number = number;
            this.left = left;
            this.right = right;
        }

        int value(int... names) {
            if (sign == 'n') {
                return number;
            }
            if (sign == 'x') {
                return names[number];
            }
            int a = left.value(names);
            if (sign == '!') {
                return a == 0 ? 1 : 0;
            }
            int b = right.value(names);
            boolean is = false;
            switch (sign) {
                case '+': return a + b;
                case '-': return a - b;
                case '*': return a * b;
                case '/': return b == 0 ? 0 : (int) ((long) a / b);
                case '%': return b == 0 ? 0 : (int) ((long) a % b);
                case '|': is = a != 0 | b != 0; break;
                case '&': is = a != 0 & b != 0; break;
                case '<': is = a < b; break;
                case '>': is = a > b; break;
                default: is = a == b;
            }
            return is ? 1 : 0;
        }
    }

    private static final String[] LEVELS = {"|", "&", "<=>", "+-", "*/%"};

    /** The TEXT of a span at a level of the grammar (0: T .. 5: Q); null: it is none. */
    private static Node span(String s, String names, int level, int open) {
        if (open > 5 || s.isEmpty()) {
            return null;
        }
        if (level == 5) {
            return single(s, names, open);
        }
        int depth = 0;
        for (int i = s.length() - 1; i > 0; i--) {
            char c = s.charAt(i);
            depth += c == ')' ? 1 : c == '(' ? -1 : 0;
            if (depth == 0 && LEVELS[level].indexOf(c) >= 0) {
                // The last sign of a level joins what stands ahead of it; of comparisons there is but one.
                Node left = span(s.substring(0, i), names, level == 2 ? 3 : level, open);
                Node right = span(s.substring(i + 1), names, level + 1, open);
                return left == null || right == null ? null : new Node(c, 0, left, right);
            }
        }
        return span(s, names, level + 1, open);
    }

    private static Node single(String s, String names, int open) {
        if (s.matches("[0-9]{1,4}")) {
            return new Node('n', Integer.parseInt(s), null, null);
        }
        if (s.length() == 1 && names.contains(s)) {
            return new Node('x', names.indexOf(s), null, null);
        }
        if (s.charAt(0) == '!') {
            Node part = span(s.substring(1), names, 5, open + 1);
            return part == null ? null : new Node('!', 0, part, null);
        }
        if (s.charAt(0) == '(' && s.endsWith(")") && s.length() > 2) {
            return span(s.substring(1, s.length() - 1), names, 0, open + 1);
        }
        return null;
    }

    /** The first place with which no TEXT goes on: each start is tried with all that could end it. */
    private static int fault(String s, String names) {
        for (int n = 1; n <= s.length(); n++) {
            boolean goesOn = false;
            for (String end : new String[] {"", "0"}) {
                for (int closed = 0; closed <= 5 && !goesOn; closed++) {
                    goesOn = span(s.substring(0, n) + end + ")".repeat(closed), names, 0, 0) != null;
                }
            }
            if (!goesOn) {
                return n - 1;
            }
        }
        return s.length();
    }

    // ---- the state

    private static final class State {
        int[] owner = new int[16];
        int[] under = new int[16];
        int[] kind = new int[9];
        int[] m = new int[9];
        long[] purse = new long[9];
        long[] hid = new long[9];
        int[] turn = new int[9];
        int[][] leash = new int[9][4];
        int rain = 1;
        int place = 0;
        int hunger = 5;
        int day = 0;
        int z = 1;
        Node[] texts = new Node[2];
        String tape = "";
        List<Integer> waiting = new ArrayList<>();

        State() {
            for (int i = 0; i < 16; i++) {
                owner[i] = i % 9;
            }
            for (int f = 0; f < 9; f++) {
                turn[f] = f;
                Arrays.fill(leash[f], 4);
            }
        }

        State copy() {
            State s = new State();
            s.owner = owner.clone();
            s.under = under.clone();
            s.kind = kind.clone();
            s.m = m.clone();
            s.purse = purse.clone();
            s.hid = hid.clone();
            s.turn = turn.clone();
            for (int f = 0; f < 9; f++) {
                s.leash[f] = leash[f].clone();
            }
            s.rain = rain;
            s.place = place;
            s.hunger = hunger;
            s.day = day;
            s.z = z;
            s.texts = texts.clone();
            s.tape = tape;
            s.waiting = new ArrayList<>(waiting);
            return s;
        }

        int haver() {
            for (int f = 0; f < 9; f++) {
                if (turn[f] == day % 9) {
                    return f;
                }
            }
            throw new IllegalStateException();
        }

        int smell(int oak) {
            return texts[1] == null ? under[oak] : texts[1].value(under[oak], oak, hunger);
        }

        /** One DAY; fed: -1 by KIND. What is dug under each OAK. */
        int[] day(int fed) {
            int f = haver();
            int[] dug = new int[16];
            for (int oak = 0; oak < 16; oak++) {
                under[oak] = Math.min(999, under[oak] + rain);
            }
            for (int hour = 0; hour < hunger; hour++) {
                place = next(hour < 4 ? leash[f][hour] : 4);
                int got = Math.min(under[place], 2 + hunger);
                under[place] -= got;
                dug[place] += got;
            }
            int find = Arrays.stream(dug).sum();
            Farmer farmer = farmerOf(kind[f], f, m[f]);
            int hides = Math.max(0, Math.min(find, farmer.hides(find)));
            purse[f] += hides;
            hid[f] += hides;
            for (int g = 0; g < 9; g++) {
                purse[g] += (find - hides) / 9;
            }
            purse[f] += find - hides - (find - hides) / 9 * 9;
            for (int g = 0; g < 9; g++) {
                purse[g] = Math.min(purse[g], 99999999);
            }
            hunger = 9 - (fed >= 0 ? fed : Math.max(0, Math.min(9, farmer.feeds(this, find))));
            day++;
            return dug;
        }

        private int next(int way) {
            int row = place / 4;
            int column = place % 4;
            int[] rows = {-1, 0, 1, 0, 0};
            int[] columns = {0, 1, 0, -1, 0};
            if (way != 4 && in4(row + rows[way]) && in4(column + columns[way])) {
                return 4 * (row + rows[way]) + column + columns[way];
            }
            List<Integer> near = new ArrayList<>();
            for (int w = 0; w < 5; w++) {
                if (in4(row + rows[w]) && in4(column + columns[w])) {
                    near.add(4 * (row + rows[w]) + column + columns[w]);
                }
            }
            near.sort(null);
            int best = near.get(0);
            for (int oak : near) {
                best = smell(oak) > smell(best) ? oak : best;
            }
            return best;
        }

        private static boolean in4(int i) {
            return i >= 0 && i < 4;
        }

        int find(int fed) {
            return Arrays.stream(day(fed)).sum();
        }

        State gone(int n) {
            State s = copy();
            for (int i = 0; i < n; i++) {
                s.day(-1);
            }
            return s;
        }

        long of(int f, int what) {
            long[] is = {kind[f], m[f], purse[f], hid[f], turn[f], leash[f][0], leash[f][1], leash[f][2], leash[f][3]};
            return is[what];
        }

        long purses() {
            return Arrays.stream(purse).sum();
        }
    }

    private State now = new State();
    private State kept = null;
    private int images = 0;
    private final int[] told = new int[7];
    private List<Integer> trace = new ArrayList<>();
    private final long[][] sheets = new long[4][];
    private final int[] bits = new int[4];

    /** The call of an act by its number in the face; word is the long that feed() takes. */
    long call(int act, int[] a, long word) {
        try {
            return answer(act, a, word);
        } catch (Refused refused) {
            told[refused.k]++;
            return LOW - refused.k;
        }
    }

    private long answer(int act, int[] a, long word) {
        switch (act) {
            case 0: return oak(a[0], a[1], a[2]);
            case 1:
                in(a[0], 0, 15);
                in(a[1], 0, 2);
                return a[1] == 0 ? now.owner[a[0]] : a[1] == 1 ? now.under[a[0]] : now.smell(a[0]);
            case 2:
                in(a[0], 0, 9);
                return old(now.rain, now.rain = a[0]);
            case 3:
                in(a[0], 0, 8);
                in(a[1], 0, 69);
                int km = 10 * now.kind[a[0]] + now.m[a[0]];
                now.kind[a[0]] = a[1] / 10;
                now.m[a[0]] = a[1] % 10;
                return km;
            case 4:
                in(a[0], 0, 8);
                in(a[1], 0, 8);
                return now.of(a[0], a[1]);
            case 5:
                in(a[0], 0, 8);
                in(a[1], 0, 6);
                need(KINDS[a[1]].isInstance(farmerOf(now.kind[a[0]], 0, 0)), 5);
                return now.m[a[0]];
            case 6:
                in(a[0], 0, 8);
                in(a[1], 0, 8);
                return trade(now, a[0], a[1]).turn[a[0]];
            case 7:
                in(a[0], 0, 8);
                in(a[1], 0, 3);
                in(a[2], 0, 4);
                return old(now.leash[a[0]][a[1]], now.leash[a[0]][a[1]] = a[2]);
            case 8:
                in(a[0], 0, 1);
                in(a[1], 0, a[0] == 0 ? 15 : 9);
                return a[0] == 0 ? old(now.place, now.place = a[1]) : old(now.hunger, now.hunger = a[1]);
            case 9: return feed(word, a[0]);
            case 10: return text(a[0]);
            case 11:
                in(a[0], 0, 1);
                return old(now.texts[a[0]] == null ? 0 : 1, (now.texts[a[0]] = null) == null ? 0 : 1);
            case 12: return days(a[0], false);
            case 13: return days(a[0], true);
            case 14: return old(now.z, now.z = a[0]);
            default: return lookedAhead(act, a);
        }
    }

    private static long old(long was, long is) {
        return was;
    }

    private static State trade(State s, int one, int other) {
        int turn = s.turn[one];
        s.turn[one] = s.turn[other];
        s.turn[other] = turn;
        return s;
    }

    private long oak(int oak, int what, int v) {
        in(oak, 0, 15);
        in(what, 0, 1);
        in(v, 0, what == 0 ? 8 : 999);
        int[] row = what == 0 ? now.owner : now.under;
        return old(row[oak], row[oak] = v);
    }

    private long feed(long word, int n) {
        in(n, 1, 8);
        need(now.tape.length() + n <= 60, 4);
        for (int i = 0; i < n; i++) {
            now.tape += (char) (word >> 8 * i & 0xff);
        }
        return now.tape.length();
    }

    private long text(int use) {
        in(use, 0, 1);
        String names = use == 0 ? "fhm" : "uah";
        String tape = now.tape;
        now.tape = "";
        Node node = span(tape, names, 0, 0);
        if (node == null) {
            return -10 - fault(tape, names);
        }
        now.texts[use] = node;
        return 1;
    }

    private long days(int n, boolean drawn) {
        in(n, 1, 45);
        need(now.day + n <= 9999, 3);
        long all = 0;
        for (int i = 0; i < n; i++) {
            if (drawn) {
                now.z = (int) (now.z * 1103515245L + 12345);
                now.rain = (int) ((now.z & 0xffffffffL) / 256 % 10);
            }
            all += now.find(-1);
        }
        return all;
    }

    private long lookedAhead(int act, int[] a) {
        switch (act) {
            case 15:
                in(a[0], 0, 45);
                in(a[1], 0, 8);
                in(a[2], 0, 8);
                return now.gone(a[0]).of(a[1], a[2]);
            case 16: return ahead(a[0], a[1]);
            case 17: return bestLeash(a[0]);
            case 18: return bestFeed(a[0]);
            case 19:
                in(a[0], 0, 8);
                in(a[1], 0, 8);
                need(a[0] != a[1], 1);
                return gain(a[0], a[1]);
            case 20: return bestTrade();
            case 21: return share(a[0], a[1], a[2]);
            case 22: return whoHid(a[0], a[1], a[2]);
            case 23: return voice(a[0], a[1], a[2]);
            case 24:
                need(a[0] >= 0 && a[0] < trace.size(), 2);
                return trace.get(a[0]);
            default: return kept(act, a);
        }
    }

    private long ahead(int n, int what) {
        in(n, 0, 45);
        in(what, 0, 3);
        State s = now.gone(n);
        int most = 0;
        for (int oak = 15; oak >= 0; oak--) {
            most = oak == 15 || s.under[oak] >= s.under[most] ? oak : most;
        }
        int[] is = {s.place, s.hunger, Arrays.stream(s.under).sum(), most};
        return is[what];
    }

    private long bestLeash(int what) {
        in(what, 0, 4);
        int[] best = {-1, 0, 0, 0, 0};
        int f = now.haver();
        for (int row = 0; row < 625; row++) {
            State s = now.copy();
            s.leash[f] = new int[] {row / 125, row / 25 % 5, row / 5 % 5, row % 5};
            int find = s.find(-1);
            if (find > best[0]) {
                int[] l = s.leash[f];
                best = new int[] {find, l[0], l[1], l[2], l[3]};
            }
        }
        return best[what];
    }

    private long bestFeed(int what) {
        in(what, 0, 2);
        int f = now.haver();
        long[] own = new long[10];
        long[] all = new long[10];
        for (int v = 0; v < 10; v++) {
            State s = now.copy();
            s.day(v);
            s = s.gone(9);
            own[v] = s.purse[f];
            all[v] = s.purses();
        }
        int best = 0;
        for (int v = 9; v >= 0; v--) {
            best = own[v] >= own[best] ? v : best;
        }
        best = own[best] == own[0] ? 0 : best;
        long[] is = {best, own[best], Arrays.stream(all).max().getAsLong() - all[best]};
        return is[what];
    }

    private long gain(int one, int other) {
        return trade(now.copy(), one, other).gone(18).purse[one] - now.gone(18).purse[one];
    }

    private long bestTrade() {
        long most = 0;
        long pair = -1;
        for (int i = 0; i < 9; i++) {
            for (int j = i + 1; j < 9; j++) {
                long one = gain(i, j);
                long other = gain(j, i);
                if (one > 0 && other > 0 && one + other > most) {
                    most = one + other;
                    pair = 10 * i + j;
                }
            }
        }
        need(pair >= 0, 2);
        return pair;
    }

    private long share(int f, int law, int n) {
        in(f, 0, 8);
        in(law, 0, 2);
        in(n, 1, 45);
        State s = now.copy();
        long all = 0;
        for (int i = 0; i < n; i++) {
            long purse = s.purse[f];
            boolean own = s.haver() == f;
            int[] dug = s.day(-1);
            if (law == 0) {
                all += s.purse[f] - purse;
            } else if (law == 1) {
                all += own ? Arrays.stream(dug).sum() : 0;
            } else {
                for (int oak = 0; oak < 16; oak++) {
                    all += s.owner[oak] == f ? dug[oak] : 0;
                }
            }
        }
        return all;
    }

    private long whoHid(int sheet, int n, int what) {
        in(sheet, 0, 3);
        in(n, 1, 18);
        in(what, 0, 2);
        need(sheets[sheet] != null && sheets[sheet].length >= 9, 2);
        long[] purses = Arrays.copyOf(sheets[sheet], 9);
        int found = 0;
        int first = -1;
        int least = -1;
        for (int f = 8; f >= 0; f--) {
            for (int m = 9; m >= 0; m--) {
                State s = now.copy();
                s.kind[f] = 3;
                s.m[f] = m;
                if (Arrays.equals(s.gone(n).purse, purses)) {
                    found |= 1 << f;
                    first = f;
                    least = m;
                }
            }
        }
        need(what == 0 || found != 0, 2);
        return what == 0 ? found : what == 1 ? first : least;
    }

    private long voice(int f, int voice, int x) {
        in(f, 0, 8);
        in(voice, 0, 3);
        Farmer farmer = farmerOf(now.kind[f], f, now.m[f]);
        trace = new ArrayList<>();
        farmer.trace = trace;
        switch (voice) {
            case 0: return farmer.vLeads(x);
            case 1: return farmer.vFeeds(x);
            case 2: return farmer.vHides(x);
            default: return farmer.vParts(x);
        }
    }

    private long kept(int act, int[] a) {
        switch (act) {
            case 25: return sheet(a[0], a[1], a[2]);
            case 26: {
                long[] row = row(a[0]);
                in(a[1], 0, row.length - 1);
                row[a[1]] = bits[a[0]] == 8 ? (byte) a[2] : bits[a[0]] == 16 ? (short) a[2] : a[2];
                return 1;
            }
            case 27: return move(a[0], a[1], a[2], a[3], a[4]);
            case 28: return unders(a[0]);
            case 29: return judge(a[0]);
            case 30:
                kept = now.copy();
                return ++images;
            case 31:
                need(kept != null, 2);
                now = kept.copy();
                return now.day;
            case 32:
                need(now.waiting.size() < 24, 4);
                now.waiting.add(a[0]);
                return now.waiting.size();
            case 33: return check();
            case 34: return count(a[0]);
            default:
                in(a[0], 1, 6);
                return told[a[0]];
        }
    }

    private long[] row(int sheet) {
        in(sheet, 0, 3);
        need(sheets[sheet] != null, 2);
        return sheets[sheet];
    }

    private long sheet(int sheet, int b, int n) {
        in(sheet, 0, 3);
        need(b == 0 || b == 8 || b == 16 || b == 32, 1);
        need(b == 0 || n >= 0, 3);
        need(b == 0 || n <= 24, 1);
        bits[sheet] = b;
        sheets[sheet] = b == 0 ? null : new long[n];
        return 1;
    }

    private long move(int sheet, int i, int other, int j, int n) {
        in(sheet, 0, 3);
        in(other, 0, 3);
        long[] from = row(sheet);
        long[] to = row(other);
        need(bits[sheet] == bits[other], 5);
        in(n, 0, 24);
        in(i, 0, from.length - n);
        in(j, 0, to.length - n);
        long[] were = from.clone();
        for (int p = 0; p < n; p++) {
            to[j + p] = were[i + p];
        }
        return n;
    }

    private long unders(int sheet) {
        long[] row = row(sheet);
        int laid = 0;
        for (long v : row) {
            if (laid == 16 || v < 0 || v > 999) {
                break;
            }
            now.under[laid++] = (int) v;
        }
        return laid;
    }

    private long judge(int sheet) {
        long[] row = row(sheet);
        for (int i = 0; i < row.length; i++) {
            if (now.gone(i).place != row[i]) {
                return i;
            }
        }
        return row.length;
    }

    private long check() {
        List<Integer> waiting = now.waiting;
        now.waiting = new ArrayList<>();
        State s = now.copy();
        for (int i = 0; i < waiting.size(); i++) {
            if (s.find(-1) != waiting.get(i)) {
                return i + 1;
            }
        }
        return 0;
    }

    private long count(int what) {
        in(what, 0, 11);
        long[] is = {
            now.day, now.haver(), now.place, now.hunger, now.rain, Arrays.stream(now.under).sum(), now.purses(),
            Arrays.stream(now.hid).sum(), now.tape.length(), now.waiting.size(), trace.size(), now.z,
        };
        return is[what];
    }
}
