import java.lang.management.ManagementFactory;

/**
 * What a run allocates. The room is some 600,000 objects and arrays and 7.3 million fields and elements for all calls
 * of one run; here an object may take 100,000 bytes (its numbers are int, four bytes each), and its calls nothing.
 */
public final class RoomTest {
    private static final String TEXT = "loop 12 0 5 level 2 2 300 level 2 1 300 level 1 1 300 hot 5 seed 1"
            + ";flight 3 30 90;flight 7 0 60;lane 2 3;lane 4 20;bags 0 50 0;bags 1 50 1;keep laps<1 or not (load>3)";
    private static final com.sun.management.ThreadMXBean BEAN =
            (com.sun.management.ThreadMXBean) ManagementFactory.getThreadMXBean();
    private static final Check check = new Check();

    public static void main(String[] args) {
        run(Check.loaded(TEXT));
        long start = allocated();
        BaggageLoop x = new BaggageLoop();
        long made = allocated() - start;
        System.out.println("an object takes " + made + " bytes");
        check.due("an object is small", made < 100000, true);
        Check.load(x, TEXT);
        start = allocated();
        run(x);
        long used = allocated() - start;
        System.out.println("its calls take " + used + " bytes");
        check.due("calls make nothing", used < 2000, true);
        check.end();
    }

    private static long allocated() {
        return BEAN.getThreadAllocatedBytes(Thread.currentThread().getId());
    }

    private static void run(BaggageLoop x) {
        for (int i = 0; i < 20; i++) {
            x.advance(3);
            x.stopLoop(1);
            x.setHot(i);
            x.breakMachine(1, 0, 1);
            x.loadedIn(100);
            x.shortIn(100);
            x.timeToClear(500);
            x.withoutLane(0, 100);
            if (x.flightState(1) != 2) {
                x.bestDelay(1, 50);
            }
            x.save(i % 2);
            x.undo();
            x.report();
            x.map();
            x.timetable();
            x.percentile(1, 50);
            x.worstFlight(0);
            x.isKept(3);
        }
        x.restore(0);
    }
}
