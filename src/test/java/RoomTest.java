import com.sun.management.ThreadMXBean;
import java.lang.management.ManagementFactory;

/** All calls of one run live in one room: what the dearest ones make is little, however often they are called. */
public final class RoomTest {
    private static final long MOST_BYTES_OF_AN_OBJECT = 16_000;
    private static final long MOST_BYTES_OF_A_CALL = 64;
    private static final int CALLS = 500;

    private static final ThreadMXBean threads = (ThreadMXBean) ManagementFactory.getThreadMXBean();
    private static final Due due = new Due("RoomTest");

    public static void main(String[] args) {
        // What the machine makes as it loads the classes is none of the object's.
        OldLamps x = new OldLamps();
        long before = made();
        x = new OldLamps();
        atMost("an object", made() - before, MOST_BYTES_OF_AN_OBJECT);
        String text = "o999999;0;1;2;3,l0,m1,f2,f3";
        Coasts.read(x, text);
        Coasts.fill(x, 0, 2, new int[24]);
        for (int i = 0; i < 8; i++) {
            x.move(i % 4, i, i % 3);
            x.reading(0, i, 9);
        }
        before = made();
        for (int i = 0; i < CALLS; i++) answers(x, i % 24);
        atMost("calls of many kinds", made() - before, MOST_BYTES_OF_A_CALL * 8 * CALLS);
        before = made();
        for (int i = 0; i < CALLS; i++) x.coast(Coasts.TEXT_SHEET, 0, 0, text.length());
        atMost("coasts", made() - before, MOST_BYTES_OF_A_CALL * CALLS);
        due.end();
    }

    private static void answers(OldLamps x, int watch) {
        x.set(0, watch, 0);
        x.show(1, 10, 0);
        x.moves(0, watch, 0, 2, 0, 8);
        x.worth(3);
        x.stood(0);
        x.ages();
        x.odds(0, watch, 9, 0);
        x.sheet(1, 0, 60);
    }

    private static long made() {
        return threads.getThreadAllocatedBytes(Thread.currentThread().getId());
    }

    private static void atMost(String what, long bytes, long most) {
        due.holds(what + " made " + bytes + " bytes, at most " + most, bytes <= most);
    }
}
