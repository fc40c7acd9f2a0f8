import com.sun.management.ThreadMXBean;
import java.lang.management.ManagementFactory;

/** What 512 of the dearest calls make stays far below the room that all calls have together. */
final class RoomTest {
    private static final long MOST_BYTES = 1000000;
    private static final Due due = new Due();

    public static void main(String[] args) {
        ThreadMXBean threads = (ThreadMXBean) ManagementFactory.getThreadMXBean();
        long id = Thread.currentThread().getId();
        play();
        long before = threads.getThreadAllocatedBytes(id);
        play();
        long used = threads.getThreadAllocatedBytes(id) - before;
        System.out.println("512 calls made " + used + " bytes");
        due.same("bytes above the room", Math.max(0, used - MOST_BYTES), 0);
        due.end("RoomTest");
    }

    /** Many PROMISEs and ACCEPTs at once, again and again. */
    private static void play() {
        CheapVotes x = new CheapVotes(5);
        for (int k = 0; k < 60; k++) {
            x.campaign(k % 5);
        }
        for (int k = 0; k < 60; k++) {
            x.repeat(x.way() - 1);
        }
        for (int k = 0; k < 390; k++) {
            if (k % 3 == 0) {
                x.campaign(k % 5);
            } else {
                x.run(50);
            }
        }
    }
}
