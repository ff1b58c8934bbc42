import java.util.Arrays;
import java.util.Random;

/** Runs of drawn calls (always the same ones), each answered by the class and by the Model. */
public final class ModelTest {
    private static final int CALLS = 512;
    private static final int[] EDGES = {
        Integer.MIN_VALUE, Integer.MIN_VALUE + 1, -65536, -257, -2, -1, 256, 1000, 65536, Integer.MAX_VALUE - 1,
        Integer.MAX_VALUE,
    };
    // The greatest of each argument that makes sense, for each act.
    private static final int[][] MOST = {
        {15, 1, 999}, {15, 2}, {9}, {8, 69}, {8, 8}, {8, 6}, {8, 8}, {8, 3, 4}, {1, 15}, {8}, {1}, {1}, {45},
        {45}, {99999}, {45, 8, 8}, {45, 3}, {4}, {2}, {8, 8}, {}, {8, 2, 45}, {3, 18, 2}, {8, 3, 99},
        {6}, {3, 32, 24}, {3, 23, 300}, {3, 12, 3, 12, 12}, {3}, {3}, {}, {}, {50}, {}, {11}, {6},
    };
    private static final String[] SIGNS = {"|", "&", "<", "=", ">", "+", "-", "*", "/", "%"};

    private final Random random;
    private final PigNinths pig = new PigNinths();
    private final Model model = new Model();
    private final StringBuilder trail = new StringBuilder();
    private final int wild;
    private int calls = 0;

    private ModelTest(int run) {
        random = new Random(run);
        wild = new int[] {200, 25, 5}[run % 3];
    }

    public static void main(String[] args) {
        int runs = args.length > 0 ? Integer.parseInt(args[0]) : 240;
        int from = args.length > 1 ? Integer.parseInt(args[1]) : 0;
        for (int run = from; run < from + runs; run++) {
            ModelTest test = new ModelTest(run);
            try {
                test.go();
            } catch (RuntimeException e) {
                System.out.println("run " + run + ": " + e + "\n" + test.lastCalls());
                System.exit(1);
            }
        }
        System.out.println("all answers are as due");
    }

    private String lastCalls() {
        return trail.substring(Math.max(0, trail.length() - 4000));
    }

    private void go() {
        while (calls < CALLS) {
            int what = random.nextInt(40);
            if (what == 0) {
                textCalls();
            } else if (what == 1) {
                pursesCalls();
            } else if (what == 2) {
                placesCalls();
            } else if (what == 3) {
                findsCalls();
            } else {
                drawnCall();
            }
        }
    }

    private int call(int act, long word, int... a) {
        calls++;
        if (calls > CALLS) {
            return 0;
        }
        trail.append(Face.NAMES[act]).append(Arrays.toString(a)).append(act == Face.FEED ? " " + word : "");
        long got = Face.call(pig, act, a, word);
        long want = model.call(act, a, word);
        trail.append(" -> ").append(got).append('\n');
        if (got != want) {
            throw new IllegalStateException("answered " + got + ", due is " + want);
        }
        return (int) got;
    }

    private void drawnCall() {
        int act = random.nextInt(MOST.length);
        boolean dear = act >= 17 && act <= 22;
        if (dear && random.nextInt(3) > 0) {
            act = random.nextInt(9);
        }
        int[] a = new int[MOST[act].length];
        for (int i = 0; i < a.length; i++) {
            int most = MOST[act][i];
            int drawn = random.nextInt(most + 1);
            a[i] = random.nextInt(wild) > 0 ? drawn : random.nextInt(3) > 0 ? most + 1 : EDGES[random.nextInt(EDGES.length)];
        }
        if (act == 25 && random.nextInt(5) > 0) {
            a[1] = 8 << random.nextInt(3);
        }
        if ((act == 12 || act == 13) && random.nextInt(3) > 0) {
            a[0] = 1 + random.nextInt(3);
        }
        call(act, random.nextLong(), a);
    }

    private String drawnText(int depth, String names) {
        int what = random.nextInt(depth > 4 ? 2 : 8);
        switch (what) {
            case 0: return names.substring(random.nextInt(3)).substring(0, 1);
            case 1: return "" + random.nextInt(random.nextBoolean() ? 12 : 10000);
            case 2: return "!" + drawnText(depth + 2, names);
            case 3: return "(" + drawnText(depth + 1, names) + ")";
            default:
                return drawnText(depth + 1, names) + SIGNS[random.nextInt(SIGNS.length)] + drawnText(depth + 1, names);
        }
    }

    private String spoilt(String text) {
        StringBuilder s = new StringBuilder(text);
        int at = random.nextInt(text.length() + 1);
        if (random.nextBoolean() && at < text.length()) {
            s.deleteCharAt(at);
        } else {
            String bytes = "|&<=>+-*/%!()fhmua0123456789 \377\200";
            s.insert(at, bytes.charAt(random.nextInt(bytes.length())));
        }
        return s.toString();
    }

    private void textCalls() {
        int use = random.nextInt(2);
        String text = drawnText(0, use == 0 ? "fhm" : "uah");
        int spoils = random.nextInt(3);
        for (int i = 0; i < spoils; i++) {
            text = spoilt(text);
        }
        int at = 0;
        while (at < text.length() && calls < CALLS) {
            int n = Math.min(8, text.length() - at);
            long word = 0;
            for (int i = 0; i < n; i++) {
                word |= (long) text.charAt(at + i) << 8 * i;
            }
            call(Face.FEED, word, n);
            at += n;
        }
        call(10, 0, use);
        call(1, 0, random.nextInt(16), 2);
    }

    /** PURSES as they would be, were one a HIDER: then who hid. */
    private void pursesCalls() {
        int sheet = random.nextInt(4);
        int n = 1 + random.nextInt(18);
        int farmer = random.nextInt(9);
        call(25, 0, sheet, random.nextInt(3) > 0 ? 32 : 8 << random.nextInt(2), 9 + random.nextInt(3));
        int km = call(3, 0, farmer, 30 + random.nextInt(10));
        for (int f = 0; f < 9; f++) {
            call(26, 0, sheet, f, call(15, 0, n, f, 2));
        }
        call(3, 0, farmer, km);
        for (int what = 0; what < 3; what++) {
            call(22, 0, sheet, n, what);
        }
    }

    private void placesCalls() {
        int sheet = random.nextInt(4);
        int n = 1 + random.nextInt(8);
        call(25, 0, sheet, 8 << random.nextInt(3), n);
        for (int i = 0; i < n; i++) {
            call(26, 0, sheet, i, call(16, 0, i, 0));
        }
        call(29, 0, sheet);
    }

    private void findsCalls() {
        int n = 1 + random.nextInt(4);
        int[] finds = new int[n];
        call(30, 0);
        for (int i = 0; i < n; i++) {
            finds[i] = call(12, 0, 1);
        }
        call(31, 0);
        call(33, 0);
        for (int i = 0; i < n; i++) {
            call(32, 0, finds[i]);
        }
        call(33, 0);
    }
}
