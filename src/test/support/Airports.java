import java.util.function.Supplier;

/** Objects in many states, for tests that make the same one again and again. */
final class Airports {
    /** A bag that arrives at 1 is in a machine at 1, and at ENTRY at 2. */
    static final String QUICK = " level 1 1 0 level 1 1 0 level 1 1 0 hot 0 seed 0";
    /** The same with four machines: bags that arrive at 1 are at ENTRY at 2, 3, 4 and so on. */
    static final String WIDE = " level 4 1 0 level 1 1 0 level 1 1 0 hot 0 seed 0";

    /** Three flights, two lanes, seven bags, positions 0 to 8, two, one and three machines. */
    static final String RICH_TEXT = "loop 9 2 6 level 2 2 400 level 1 3 500 level 3 1 500 hot 7 seed 4711;flight 0 22 60"
            + ";flight 4 30 31;flight 8 0 40;lane 3 2;lane 5 3;bags 0 3 0;bags 1 2 1;bags 4 2 2;shift 1 1 3 4"
            + ";keep laps<1 and wait>40";
    /** A text that stands in the input buffer meanwhile. */
    static final String NEXT_TEXT = "loop 4 0 1" + QUICK + ";flight 2 0 9;bags 0 1 0";

    /** Bags that go round, are screened again and again, and are stored, loaded, short and rejected. */
    static final String BUSY_TEXT = "loop 6 1 3 level 2 2 600 level 1 2 600 level 1 2 600 hot 5 seed 8;flight 0 40 50"
            + ";flight 4 0 30;flight 5 9 12;lane 2 1;bags 0 4 0;bags 3 4 1;bags 5 2 2;bags 20 9 0;keep laps<2";

    private static final String BAD_TEXT = RICH_TEXT.replace("lane 5 3", "lane 5 21");
    private static final String CLOSING = "loop 10 0 5" + WIDE + ";flight 3 0 99;flight 4 0 98;lane 2 5;bags 1 1 0;bags 1 1 1";

    static final Supplier<BaggageLoop> EMPTY = BaggageLoop::new;
    static final Supplier<BaggageLoop> FAILED = Airports::failed;
    static final Supplier<BaggageLoop> FRESH = () -> Check.loaded(RICH_TEXT);
    static final Supplier<BaggageLoop> SOME = Airports::some;
    static final Supplier<BaggageLoop> BUSY = Airports::busy;
    static final Supplier<BaggageLoop> RICH = Airports::rich;

    private Airports() {
    }

    static BaggageLoop at(String text, int time) {
        BaggageLoop x = Check.loaded(text);
        advance(x, time);
        return x;
    }

    static void advance(BaggageLoop x, int ticks) {
        for (int left = ticks; left > 0; left -= 500) {
            x.advance(Math.min(left, 500));
        }
    }

    /** No airport, a parse error, and a good text in the buffer. */
    private static BaggageLoop failed() {
        BaggageLoop x = new BaggageLoop();
        failToLoad(x);
        Check.fill(x, NEXT_TEXT);
        return x;
    }

    private static void failToLoad(BaggageLoop x) {
        try {
            Check.load(x, BAD_TEXT);
        } catch (IllegalArgumentException e) {
            return;
        }
        throw new AssertionError("a bad text was loaded");
    }

    /** Three changes can be undone; nothing is saved. */
    private static BaggageLoop some() {
        BaggageLoop x = Check.loaded(RICH_TEXT);
        x.advance(8);
        x.setHot(9);
        x.advance(5);
        return x;
    }

    /** In the midst of things: two changes can be undone, and an earlier state is saved. */
    private static BaggageLoop busy() {
        BaggageLoop x = Check.loaded(BUSY_TEXT);
        x.advance(4);
        x.save(1);
        x.advance(9);
        return x;
    }

    /** Six changes can be undone, both slots are used, all texts are written, there was a parse error. */
    private static BaggageLoop rich() {
        BaggageLoop x = Check.loaded(RICH_TEXT);
        x.advance(8);
        x.save(0);
        x.report();
        x.map();
        x.timetable();
        x.setHot(9);
        x.advance(5);
        x.save(1);
        x.block(1, true);
        x.breakMachine(1, 1, 7);
        x.stopLoop(5);
        x.reroute(5, 0);
        x.delay(1, 3);
        x.advance(4);
        x.addBags(2, 4, 2);
        failToLoad(x);
        Check.fill(x, NEXT_TEXT);
        return x;
    }

    /** An airport at a time, with a flight that is open all the time. */
    static BaggageLoop late(int time) {
        BaggageLoop x = Check.loaded("loop 9 2 6" + QUICK + ";flight 0 0 1999;lane 3 2;bags 1 1 0");
        for (int i = 0; i < 9; i++) {
            x.delay(0, 999);
        }
        advance(x, time);
        return x;
    }

    /** An airport with bag 0 in a state; its flight is 0, CLOSE is 99 or, for short bags, 1. */
    static BaggageLoop inState(int state) {
        String way = "loop 10 0 5 level 1 1 1000 level 1 1 1000 level 1 1 0 hot 0 seed 0;flight 3 40 99;flight 4 0 98"
                + ";lane 2 1;bags 2 1 0;shift 1 0 2 3;shift 2 0 5 6;shift 3 0 8 9";
        int[] times = {1, 2, 4, 5, 7, 8, 10, 2, 11, 13, 41, 20, 11, 41};
        String text = switch (state) {
            case 7 -> CLOSING;
            case 11 -> "loop 10 0 5" + QUICK + ";flight 3 0 1;flight 4 0 98;lane 2 1;bags 1 1 0";
            case 12 -> way.replace("level 1 1 0", "level 1 1 1000");
            default -> way;
        };
        BaggageLoop x = at(text, times[state]);
        if (state == 13) {
            x.offload(0);
        }
        return x;
    }
}
