import com.sun.management.ThreadMXBean;
import java.lang.management.ManagementFactory;

/** What the calls of a run make: no call makes anything, and an object is small. */
final class RoomTest {
    private static final int OBJECTS = 64;
    /** 14,000 elements of 8 bytes: 512 objects are within the room of 7.3 million elements. */
    private static final long MOST_BYTES = 14000 * 8;

    private static final char[] SIGNS = "0a>1bc:17;1b>0:2;".toCharArray();

    private static final Checks CHECKS = new Checks();
    private static final ThreadMXBean THREADS = (ThreadMXBean) ManagementFactory.getThreadMXBean();

    private RoomTest() {
    }

    public static void main(String[] args) {
        StackLab[] labs = new StackLab[OBJECTS];
        labs[0] = new StackLab();
        useAll(labs[0]);
        long before = made();
        for (int k = 1; k < OBJECTS; k++) {
            labs[k] = new StackLab();
        }
        long each = (made() - before) / (OBJECTS - 1);
        System.out.println(each + " bytes an object");
        CHECKS.dueTrue("an object is small: " + each, each <= MOST_BYTES);
        before = made();
        for (int k = 1; k < OBJECTS; k++) {
            useAll(labs[k]);
        }
        // Measuring makes a few bytes itself; a call that made an object each time would make far more.
        CHECKS.due("bytes made by a use of all calls", (made() - before) / (OBJECTS - 1) / 8, 0);
        CHECKS.end();
    }

    private static long made() {
        return THREADS.getThreadAllocatedBytes(Thread.currentThread().getId());
    }

    private static int useAll(StackLab lab) {
        int sum = lab.begin(4, 5);
        for (int k = 0; k < 21; k++) {
            int word = k % 3 == 0 ? 0 : k % 3 == 1 ? 2 : 31 + k % 5;
            sum += lab.addRule(k % 4, 1 + k % 5, (k + 1) % 4, word, 1 + k % 20);
        }
        sum += lab.setWeight(3, 4) + lab.setStart(0, 1234) + lab.removeRule(2) + lab.undo();
        sum += lab.told(7) + lab.rule(1, 1);
        for (int p = 0; p < 4; p++) {
            sum += lab.distance(p, 34) + lab.steps(p, 234) + lab.witness(p, 34, 2, 3) + (int) lab.mean(p, 4);
            sum += lab.headDistance(p, 3) + lab.nearestStack(p, 4) + lab.heads() + lab.price(p, 1, 0);
            sum += lab.wordPrice(p, 12345, 1) + lab.arcs() + lab.arc(p, 1) + lab.arcWeight(p, 1, 31);
            sum += lab.distanceWithout(p, p, 34) + lab.critical(p, 34) + lab.tolerance(p, p, 34);
        }
        for (char sign : SIGNS) {
            sum += lab.write(sign);
        }
        return sum + lab.fault() + lab.load() + lab.wipe();
    }
}
