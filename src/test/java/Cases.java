import java.lang.reflect.InvocationTargetException;
import java.lang.reflect.Method;
import java.util.ArrayList;
import java.util.Comparator;
import java.util.List;

/**
 * What the tests of boundary cases share. Each case is a static method of its own whose name begins with the
 * promise (promise02_..) or the term (term1_..) of the document that names it.
 */
abstract class Cases {
    static final long LOW = -1000000000L;
    static final long BEYOND = LOW - 1;
    static final long NONE = LOW - 2;
    static final long STATE = LOW - 3;
    static final long FULL = LOW - 4;
    static final long KIND = LOW - 5;
    static final long PARTED = LOW - 6;
    static final int MIN = Integer.MIN_VALUE;
    static final int MAX = Integer.MAX_VALUE;
    private static final long NO_ERROR = LOW;

    /** One call of an object: what it answers. */
    interface Call {
        long on(PigNinths x);
    }

    /** What is done to an object ahead of the call that is tested. */
    interface SetUp {
        void on(PigNinths x);
    }

    static void runAll(Class<?> tests) {
        List<Method> cases = new ArrayList<>();
        for (Method each : tests.getDeclaredMethods()) {
            if (!each.isSynthetic() && each.getName().matches("(promise|term)\\w*")) {
                cases.add(each);
            }
        }
        cases.sort(Comparator.comparing(Method::getName));
        int wrong = 0;
        for (Method each : cases) {
            wrong += holds(each) ? 0 : 1;
        }
        System.out.println(cases.size() + " cases, " + (wrong == 0 ? "all hold" : wrong + " do not hold"));
        if (wrong != 0 || cases.isEmpty()) {
            System.exit(1);
        }
    }

    private static boolean holds(Method test) {
        try {
            test.setAccessible(true);
            test.invoke(null);
            return true;
        } catch (InvocationTargetException e) {
            System.out.println(test.getName() + lineOf(test, e.getCause()) + ": " + e.getCause());
        } catch (ReflectiveOperationException e) {
            System.out.println(test.getName() + ": " + e);
        }
        return false;
    }

    private static String lineOf(Method test, Throwable thrown) {
        for (StackTraceElement at : thrown.getStackTrace()) {
            if (at.getMethodName().equals(test.getName())) {
                return " (line " + at.getLineNumber() + ")";
            }
        }
        return "";
    }

    static void due(long want, long got) {
        if (got != want) {
            throw new AssertionError("answered " + got + ", due is " + want);
        }
    }

    static void need(boolean is) {
        if (!is) {
            throw new AssertionError("it is not so");
        }
    }

    // ---- refused calls

    /** What a refused call answers, and that it changes nothing but what told() tells. */
    static void refused(long error, Call call) {
        refused(error, x -> { }, call);
    }

    static void refused(long error, SetUp setUp, Call call) {
        refusedLike(error, setUp, call, y -> 0);
    }

    /** A refused call that changes something, where the document says so: as other, which is not refused, does. */
    static void refusedLike(long error, SetUp setUp, Call call, Call other) {
        for (Probe probe : Probe.values()) {
            PigNinths x = new PigNinths();
            PigNinths y = new PigNinths();
            Probe.furnish(x);
            Probe.furnish(y);
            setUp.on(x);
            setUp.on(y);
            due(error, call.on(x));
            other.on(y);
            for (int k = 1; k <= 6; k++) {
                due(y.told(k) + (LOW - k == error ? 1 : 0), x.told(k));
            }
            alike(probe.answers(x), probe.answers(y));
        }
    }

    /** What a call answers that is not refused, and that it changes nothing at all. */
    static void looked(long want, SetUp setUp, Call call) {
        need(want >= NO_ERROR);
        refused(want, setUp, call);
    }

    private static void alike(List<String> got, List<String> want) {
        need(got.size() == want.size());
        for (int i = 0; i < got.size(); i++) {
            if (!got.get(i).equals(want.get(i))) {
                throw new AssertionError("behind the call " + got.get(i) + ", without it " + want.get(i));
            }
        }
    }

    // ---- objects to start from

    /** A wood where no rain falls: what is dug can be counted by hand. */
    static PigNinths dry() {
        PigNinths x = new PigNinths();
        x.rain(0);
        return x;
    }

    /** A dry wood where so many DAYS went by, and nothing was found. */
    static PigNinths dryAt(int day) {
        PigNinths x = dry();
        goTo(x, day);
        return x;
    }

    static void goTo(PigNinths x, int day) {
        int gone = x.count(0);
        while (gone < day) {
            int n = Math.min(45, day - gone);
            x.days(n);
            gone += n;
        }
        due(day, x.count(0));
    }

    static int tape(PigNinths x, String text) {
        int size = x.count(8);
        for (int at = 0; at < text.length(); at += 8) {
            int n = Math.min(8, text.length() - at);
            long word = 0;
            for (int i = 0; i < n; i++) {
                word |= (long) (text.charAt(at + i) & 255) << 8 * i;
            }
            size = x.feed(word, n);
        }
        return size;
    }

    static int text(PigNinths x, int use, String text) {
        tape(x, text);
        return x.text(use);
    }

    static void sheetOf(PigNinths x, int sheet, int bits, int... numbers) {
        due(1, x.sheet(sheet, bits, numbers.length));
        for (int i = 0; i < numbers.length; i++) {
            due(1, x.put(sheet, i, numbers[i]));
        }
    }

    /** The numbers that a SHEET begins with, by what comes to lie UNDER the OAKS. */
    static void lie(PigNinths x, int sheet, int... numbers) {
        need(x.unders(sheet) >= numbers.length);
        for (int i = 0; i < numbers.length; i++) {
            due(numbers[i], x.oakIs(i, 1));
        }
    }

    static void trace(PigNinths x, int... bodies) {
        due(bodies.length, x.count(10));
        for (int i = 0; i < bodies.length; i++) {
            due(bodies[i], x.body(i));
        }
    }
}
