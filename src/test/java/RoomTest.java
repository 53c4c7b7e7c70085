import com.sun.management.ThreadMXBean;
import java.lang.management.ManagementFactory;

/** The room that one run takes: the dearest calls, again and again, on the fullest yards. */
public final class RoomTest {
    private static final Checks CHECKS = new Checks();
    private static final int CALLS = 512;
    // The document's run has room for 7.3 million fields; an object and all its calls take far less.
    private static final long MOST_BYTES = 64 * 1024;
    private static final String[][] YARDS = {
        {"4A B 3A", "4B A 3B", "", ""}, {"A B A B", "A B A B", "A B A B", "A B A B"},
        {"2A 2Bx", "2A 2B", "2B 2A", "B A B A"}, {"6B", "5B", "5B A", "A 4B"},
    };

    private RoomTest() {
    }

    public static void main(String[] args) {
        ThreadMXBean meter = (ThreadMXBean) ManagementFactory.getThreadMXBean();
        play(YARDS[0]);
        for (String[] tracks : YARDS) {
            long before = meter.getCurrentThreadAllocatedBytes();
            long sum = play(tracks);
            long bytes = meter.getCurrentThreadAllocatedBytes() - before;
            CHECKS.dueTrue("a run takes " + bytes + " bytes, its answers are " + sum, bytes < MOST_BYTES);
        }
        CHECKS.close();
    }

    private static long play(String[] tracks) {
        ShuntYard yard = new ShuntYard();
        yard.begin(4, 8);
        for (int track = 0; track < tracks.length; track++) {
            Checks.arrive(yard, track, tracks[track]);
        }
        Checks.list(yard, "ABABABABAB");
        yard.set(2, 1);
        long sum = 0;
        for (int call = 0; call < CALLS; call++) {
            sum += yard.cheapest(3, call % 5);
            sum += yard.pause(1) + yard.keep(call % 2) + yard.makeUp(1) + yard.undo() + yard.back(call % 2);
        }
        return sum;
    }
}
