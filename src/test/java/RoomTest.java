import com.sun.management.ThreadMXBean;
import java.lang.management.ManagementFactory;

/** No call makes objects, and a new object is small: all calls of a run fit into one room. */
public final class RoomTest {
    private static final int CALLS = 512;
    private static final long MOST_OF_NEW = 40000;
    // Of what is made by 512 calls; what the machine itself makes now and then fits in.
    private static final long MOST_OF_CALLS = 4096;
    private static final String NOSE = "u*(a+1)%7+u/(h+1)-u*a*h+u%3-a*a+u*2-h*h+u-(u<a)+u*u-a%5+u-1";

    private RoomTest() {
    }

    private static PigNinths made() {
        PigNinths x = new PigNinths();
        for (int i = 0; i < NOSE.length(); i++) {
            x.feed(NOSE.charAt(i), 1);
        }
        x.text(1);
        x.sheet(0, 32, 24);
        x.sheet(1, 32, 24);
        for (int oak = 0; oak < 16; oak++) {
            x.oak(oak, 1, 999 - oak);
        }
        x.pig(1, 9);
        x.image();
        return x;
    }

    private static long callsOf(PigNinths x, int act, int[] a) {
        long all = 0;
        for (int i = 0; i < CALLS; i++) {
            all += Face.call(x, act, a, 0x2b752b752b752b75L);
        }
        return all;
    }

    public static void main(String[] args) {
        ThreadMXBean bean = (ThreadMXBean) ManagementFactory.getThreadMXBean();
        long me = Thread.currentThread().getId();
        int wrong = 0;
        int[][] rows = {{0, 1, 2, 3, 4}, {1, 1, 1, 1, 1}, {2, 0, 1, 0, 2}, {-1, -1, -1, -1, -1}, {1, 9, 0, 0, 1}};
        made();
        bean.getThreadAllocatedBytes(me);
        for (int act = 0; act < Face.NAMES.length; act++) {
            for (int[] row : rows) {
                callsOf(made(), act, row);
                PigNinths x = made();
                long was = bean.getThreadAllocatedBytes(me);
                callsOf(x, act, row);
                long made = bean.getThreadAllocatedBytes(me) - was;
                if (made > MOST_OF_CALLS) {
                    wrong++;
                    System.out.println(Face.NAMES[act] + " makes " + made + " bytes by " + CALLS + " calls");
                }
            }
        }
        long was = bean.getThreadAllocatedBytes(me);
        PigNinths last = new PigNinths();
        long ofNew = bean.getThreadAllocatedBytes(me) - was;
        if (ofNew > MOST_OF_NEW || last.count(0) != 0) {
            wrong++;
            System.out.println("a new object has " + ofNew + " bytes");
        }
        System.out.println(wrong == 0 ? "the room is kept, a new object has " + ofNew + " bytes" : wrong + " are too large");
        if (wrong != 0) {
            System.exit(1);
        }
    }
}
