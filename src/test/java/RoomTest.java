import com.sun.management.ThreadMXBean;
import java.lang.management.ManagementFactory;

/** All calls of one run live in one room: 7.3 million fields and elements, of at most 8 bytes each. */
final class RoomTest {
    private static final long ROOM = 7300000L * 8;
    private static final int CALLS = 512;
    private static final int KINDS = 17;
    /** Other runs first, so that what the machine makes for itself is made before. */
    private static final int WARM = 20;

    private static final Checks CHECKS = new Checks("the room");
    private static final ThreadMXBean THREADS = (ThreadMXBean) ManagementFactory.getThreadMXBean();

    private RoomTest() {
    }

    public static void main(String[] args) {
        for (int kind = 0; kind < KINDS; kind++) {
            for (int k = 0; k < WARM; k++) {
                play(kind);
            }
            long before = made();
            play(kind);
            long bytes = made() - before;
            System.out.println("calls of kind " + kind + ": " + bytes + " bytes");
            CHECKS.dueTrue("a run of kind " + kind + " has room: " + bytes, bytes <= ROOM);
        }
        CHECKS.end();
    }

    private static long made() {
        return THREADS.getThreadAllocatedBytes(Thread.currentThread().getId());
    }

    /** A new object with 20 rules, then calls of one kind, with a change before each so that all is asked anew. */
    private static int play(int kind) {
        StackLab lab = new StackLab();
        int sum = lab.begin(4, 5) + lab.setStart(1, 1234);
        for (int k = 0; k < 20; k++) {
            int word = k % 3 == 0 ? 0 : k % 3 == 1 ? 2 : 31 + k % 5;
            sum += lab.addRule(k % 4, 1 + k % 5, (k + 1) % 4, word, 1 + k % 20);
        }
        for (int call = 23; call + 1 < CALLS; call += 2) {
            sum += lab.setWeight(call % 20, 1 + call % 20) + ask(lab, kind, call);
        }
        return sum;
    }

    private static int ask(StackLab lab, int kind, int call) {
        int p = call % 4;
        switch (kind) {
            case 0:
                return lab.distance(p, 234);
            case 1:
                return lab.steps(p, 34);
            case 2:
                return lab.witness(p, 34, 300, 3);
            case 3:
                return (int) lab.mean(p, 4);
            case 4:
                return lab.headDistance(p, 3);
            case 5:
                return lab.nearestStack(p, 4);
            case 6:
                return lab.heads();
            case 7:
                return lab.price(p, 1, 0);
            case 8:
                return lab.wordPrice(p, 123451, 1);
            case 9:
                return lab.arcs();
            case 10:
                return lab.arc(call, 1);
            case 11:
                return lab.arcWeight(p, 1, 31);
            case 12:
                return lab.distanceWithout(call % 20, p, 34);
            case 13:
                return lab.critical(p, 34);
            case 14:
                return lab.tolerance(call % 20, p, 34);
            case 15:
                return lab.fault();
            default:
                return lab.load();
        }
    }
}
