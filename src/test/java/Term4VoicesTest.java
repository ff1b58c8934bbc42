import java.lang.reflect.Field;
import java.lang.reflect.Method;

/** The boundary cases of the term 4, VOICES: ints that wrap, what is PARTED, the empty and the full TRACE. */
public final class Term4VoicesTest extends Cases {
    private static final int LEADS = 0;
    private static final int FEEDS = 1;
    private static final int HIDES = 2;
    private static final int PARTS = 3;

    private Term4VoicesTest() {
    }

    public static void main(String[] args) {
        runAll(Term4VoicesTest.class);
    }

    private static int said(int k, int km, int voice, int x) {
        PigNinths pig = new PigNinths();
        pig.farmer(k, km);
        return pig.voice(k, voice, x);
    }

    // ---- ints that wrap

    static void term4_wrap_farmerLeads() {
        due(MAX, said(1, 0, LEADS, MAX - 1));
        due(MIN, said(1, 0, LEADS, MAX));
        due(MIN + 7, said(8, 0, LEADS, MAX));
        due(MIN, said(0, 0, LEADS, MIN));
    }

    static void term4_wrap_farmerFeeds() {
        due(MAX - 1, said(0, 0, FEEDS, MAX / 2));
        due(MIN, said(0, 0, FEEDS, MAX / 2 + 1));
        due(MIN, said(0, 0, FEEDS, MIN / 2));
        due(MAX - 1, said(0, 0, FEEDS, MIN / 2 - 1));
    }

    static void term4_wrap_farmerHides() {
        due(MIN, said(0, 0, HIDES, MIN / 2));
        due(MAX, said(0, 1, HIDES, MIN / 2));
        due(MAX - 8, said(0, 9, HIDES, MIN / 2));
    }

    static void term4_wrap_farmerPartsTheLeastByLess1() {
        due(MIN, said(1, 0, PARTS, MIN));
        due(MIN + 1, said(1, 0, PARTS, MAX));
        due(MAX, said(1, 0, PARTS, MIN + 1));
    }

    static void term4_wrap_miserLeads() {
        due(MIN, said(0, 10, LEADS, MIN + 4));
        due(MAX, said(0, 10, LEADS, MIN + 3));
        due(MAX - 3, said(0, 10, LEADS, MIN));
    }

    static void term4_wrap_miserParts() {
        // By 9 - 8; feeds(1) is (1 + 8 - 4) * 2.
        due(MAX, said(8, 19, PARTS, MAX - 10));
        due(MIN, said(8, 19, PARTS, MAX - 9));
        due(MIN + 9, said(8, 19, PARTS, MAX));
    }

    static void term4_wrap_feederFeeds() {
        due(MIN, said(0, 20, FEEDS, MIN / 2));
        due(-MAX + 1, said(0, 20, FEEDS, MAX / 2));
    }

    static void term4_wrap_hiderHides() {
        due(MIN, said(0, 30, HIDES, MIN));
        due(MAX, said(0, 31, HIDES, MIN));
        due(MAX - 1, said(0, 30, HIDES, MAX));
    }

    static void term4_wrap_starverLeads() {
        due((int) (3L * (MAX - 4)), said(0, 40, LEADS, MAX));
        due(MAX - 1, said(0, 40, LEADS, MAX / 3 + 4));
        due(MIN + 1, said(0, 40, LEADS, MAX / 3 + 5));
    }

    static void term4_wrap_pampererFeeds() {
        due(0, said(0, 50, FEEDS, MAX));
        due(2, said(0, 50, FEEDS, MAX - 1));
    }

    static void term4_k_leastAndGreatest() {
        due(7, said(0, 0, LEADS, 7));
        due(15, said(8, 0, LEADS, 7));
        // ((0 + 8 - 4) * 3 * 2 - 0) ^ 8
        due(24 ^ 8, said(8, 40, HIDES, 0));
        due(-24, said(0, 40, HIDES, 0));
    }

    static void term4_m_leastAndGreatest() {
        due(18, said(0, 60, FEEDS, 5));
        due(27, said(0, 69, FEEDS, 5));
        due(10, said(0, 0, HIDES, 5));
        due(1, said(0, 9, HIDES, 5));
    }

    // ---- parted

    static void term4_parts_byLess1_0And1() {
        due(-7, said(5, 4, PARTS, 7));
        due(PARTED, said(5, 5, PARTS, 7));
        due(7, said(5, 6, PARTS, 7));
    }

    static void term4_parts_leastAndGreatestDivisor() {
        due(-8, said(8, 0, PARTS, 64));
        due(7, said(0, 9, PARTS, 64));
    }

    static void term4_parted_ofEachKindAndFarmer() {
        for (int kind = 0; kind < 7; kind++) {
            for (int k = 0; k < 9; k++) {
                due(PARTED, said(k, 10 * kind + k, PARTS, 50));
                need(said(k, 10 * kind + k + 1, PARTS, 50) > LOW);
            }
        }
    }

    static void term4_parted_isOfPartsAlone() {
        for (int kind = 0; kind < 7; kind++) {
            for (int voice = LEADS; voice <= HIDES; voice++) {
                need(said(3, 10 * kind + 3, voice, 50) > LOW);
            }
        }
    }

    static void term4_parted_of0IsPartedToo() {
        due(PARTED, said(0, 0, PARTS, 0));
        due(0, said(0, 1, PARTS, 0));
    }

    static void term4_parted_isAllThatIsAnswered() {
        // A MISER would add feeds(1), a STARVER as well.
        due(PARTED, said(2, 12, PARTS, 5));
        due(PARTED, said(2, 42, PARTS, 5));
    }

    // ---- kinds

    static void term4_kinds_theNextAboveThatHasOne() {
        // The KIND of its own, one above, two above.
        due(5 + 4, said(4, 39, LEADS, 5));
        due((5 + 4 - 4) * 2, said(4, 19, FEEDS, 5));
        due((5 + 4 - 4) * 3 * 2, said(4, 49, FEEDS, 5));
        due(5 / 5, said(4, 59, PARTS, 5));
    }

    static void term4_kinds_withoutSuperIsThatOfItsOwnKind() {
        // feeds of a FARMER asks leads of a STARVER, of a TOLD one.
        due((7 - 4) * 3 * 2, said(0, 40, FEEDS, 7));
        due(9 * 2 + 5 - 5, said(0, 65, HIDES, 7));
    }

    static void term4_kinds_superIsFromTheKindAboveTheBodys() {
        // parts of a STARVER is that of a MISER, whose super.parts is that of a FARMER.
        due(7 + (1 - 4) * 3 * 2, said(0, 41, PARTS, 7));
    }

    // ---- the trace

    private static void traced(int km, int voice, int... bodies) {
        PigNinths x = new PigNinths();
        x.farmer(2, km);
        x.voice(2, voice, 7);
        trace(x, bodies);
        due(NONE, x.body(bodies.length));
    }

    static void term4_trace_emptyAtFirst() {
        PigNinths x = new PigNinths();
        due(0, x.count(10));
        due(NONE, x.body(0));
    }

    static void term4_trace_ofOneBody() {
        traced(5, LEADS, 10);
        traced(5, PARTS, 13);
        traced(65, LEADS, 70);
    }

    static void term4_trace_asTheyBegan() {
        traced(5, HIDES, 12, 11, 10);
        traced(45, LEADS, 50, 20, 10);
        traced(55, HIDES, 12, 60, 30, 11, 10);
    }

    static void term4_trace_eachBodyByItsNumber() {
        traced(5, FEEDS, 11, 10);
        traced(15, LEADS, 20, 10);
        traced(25, FEEDS, 30, 11, 10);
        traced(35, HIDES, 40, 12, 11, 10);
        traced(45, HIDES, 51, 12, 11, 50, 20, 10);
        traced(55, FEEDS, 60, 30, 11, 10);
        traced(65, FEEDS, 71, 11, 70);
        traced(65, HIDES, 12, 71, 11, 70);
    }

    static void term4_trace_whatStandsLeftIsWorkedOutFirst() {
        traced(15, PARTS, 21, 13, 11, 20, 10);
    }

    static void term4_trace_theLongest() {
        traced(45, HIDES, 51, 12, 11, 50, 20, 10);
        traced(45, PARTS, 21, 13, 11, 50, 20, 10);
    }

    static void term4_trace_isOfTheLatestVoice() {
        PigNinths x = new PigNinths();
        x.farmer(2, 45);
        x.voice(2, HIDES, 7);
        due(6, x.count(10));
        x.voice(1, LEADS, 7);
        trace(x, 10);
        due(NONE, x.body(1));
        x.voice(1, FEEDS, 7);
        trace(x, 11, 10);
    }

    static void term4_trace_ofWhatIsParted() {
        traced(2, PARTS, 13);
        traced(12, PARTS, 21, 13);
        traced(42, PARTS, 21, 13);
        traced(62, PARTS, 13);
    }

    private static Object of(Object owner, String field) throws ReflectiveOperationException {
        Field f = owner.getClass().getDeclaredField(field);
        f.setAccessible(true);
        return f.get(owner);
    }

    static void term4_trace_theFirst30() {
        // No VOICE has more than six BODIES: THE TRACE is filled from outside.
        PigNinths x = new PigNinths();
        try {
            Object bodies = of(of(x, "voices"), "trace");
            Method append = bodies.getClass().getDeclaredMethod("append", int.class);
            append.setAccessible(true);
            for (int i = 0; i < 32; i++) {
                append.invoke(bodies, 100 + i);
                due(Math.min(30, i + 1), x.count(10));
            }
        } catch (ReflectiveOperationException e) {
            throw new AssertionError("THE TRACE cannot be filled: " + e);
        }
        due(100, x.body(0));
        due(129, x.body(29));
        due(NONE, x.body(30));
        x.voice(0, LEADS, 1);
        trace(x, 10);
    }
}
