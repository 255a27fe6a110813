import java.lang.management.ManagementFactory;

/** All calls of a run live in one room: what a long run of the dearest calls makes is counted here. */
public final class RoomTest {
    private static final Due due = new Due("RoomTest");
    /** Far under the room's 7.3 million elements, were they all of eight bytes. */
    private static final long MOST_BYTES = 2_000_000;

    public static void main(String[] args) {
        run();
        com.sun.management.ThreadMXBean threads = (com.sun.management.ThreadMXBean) ManagementFactory.getThreadMXBean();
        long before = threads.getCurrentThreadAllocatedBytes();
        int sum = run();
        long made = threads.getCurrentThreadAllocatedBytes() - before;
        System.out.println("RoomTest: a run of dear calls makes " + made + " bytes (" + sum + ")");
        due.holds("a run of dear calls makes " + made + " bytes", made < MOST_BYTES);
        due.end();
    }

    private static int run() {
        OneKey x = Due.told("gaol 6;soap 3;hungry 5;hungry 4;hungry 3;hungry 1;plain 0 1 0;plain 1 2 0;plain 2 3 0;plain 3 4 0",
            "plain 0 2 0;sticking 0 3 0;plain 0 4 0;plain 1 3 0;plain 1 4 0;oneway 4 5 0");
        int sum = 0;
        for (int i = 0; i < 120; i++) {
            sum += x.act(i % 2) + x.fewest(i) + x.out(i) + x.by(i % 4);
        }
        for (int m = 1; m <= 8; m++) {
            sum += (int) x.night(m, 0) + x.ask(m) + x.fault();
        }
        return sum;
    }
}
