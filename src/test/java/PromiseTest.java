/** A method for each promise of the document; the answers are worked out by hand from its words. */
public final class PromiseTest {
    private static final Class<IllegalStateException> ISE = Check.ISE;
    private static final Class<IllegalArgumentException> IAE = Check.IAE;
    private static final Class<IndexOutOfBoundsException> IOOBE = Check.IOOBE;
    private static final int MIN = Integer.MIN_VALUE;
    private static final int MAX = Integer.MAX_VALUE;

    /**
     * Time 1: bag 2, whose flight closes first, is in the machine. 3: it comes onto the loop, bag 0 into the machine.
     * 5: bag 0 onto the loop, bag 1 into the machine. 7: bag 0 stored, bag 1 onto the loop. 9: bag 1 stored.
     * 10: bag 2 loaded, bag 0 back on the loop. 11: bag 0 loaded, bag 1 back on the loop. 12: bag 1 loaded.
     */
    private static final String BASE = "loop 10 0 5 level 1 2 0 level 1 1 0 level 1 1 0 hot 5 seed 1"
            + ";flight 3 10 40;flight 7 0 30;lane 2 3;bags 0 2 0;bags 1 1 1";
    /** One bag that is never loaded: its flight closes at 1. It is at ENTRY from 2 on and at PROBLEM (3) at 5. */
    private static final String LATE = "loop 8 0 3 level 1 1 0 level 1 1 0 level 1 1 0 hot 0 seed 0"
            + ";flight 5 0 1;bags 0 1 0";
    /** One bag that goes through all levels and is rejected at time 4. */
    private static final String ALARMS = "loop 8 0 3 level 1 1 1000 level 1 1 1000 level 1 1 1000 hot 0 seed 0"
            + ";flight 5 0 99;bags 0 1 0";
    /** A bag that goes round without an end: there is no lane, and its flight opens late. ENTRY is 2. */
    private static final String ROUND = "loop 6 2 3 level 1 1 0 level 1 1 0 level 1 1 0 hot 10 seed 5"
            + ";flight 5 900 1000;bags 0 1 0";

    private static final Check check = new Check();

    public static void main(String[] args) throws Exception {
        for (int promise = 1; promise <= 65; promise++) {
            PromiseTest.class.getDeclaredMethod("promise" + promise).invoke(null);
        }
        ticks();
        noAirport();
        check.end();
    }

    private static void due(String what, Object got, Object want) {
        check.due(what, got, want);
    }

    private static void fails(String what, Class<? extends RuntimeException> want, Check.Call call) {
        check.fails(what, want, call);
    }

    private static BaggageLoop loaded(String text) {
        return Check.loaded(text);
    }

    private static BaggageLoop at(String text, int time) {
        BaggageLoop x = loaded(text);
        if (time > 0) {
            x.advance(time);
        }
        return x;
    }

    private interface Of {
        Object answer(BaggageLoop x, int number);
    }

    /** The answers for the numbers 0, 1 and so on, after which there must be no more. */
    private static void list(String what, BaggageLoop x, Of call, Object... want) {
        for (int i = 0; i < want.length; i++) {
            due(what + " " + i, call.answer(x, i), want[i]);
        }
        for (int wrong : new int[] {-1, MIN, want.length, MAX}) {
            fails(what + " " + wrong, IOOBE, () -> call.answer(x, wrong));
        }
        fails(what + " without an airport", ISE, () -> call.answer(new BaggageLoop(), 0));
        fails(what + " without an airport", ISE, () -> call.answer(new BaggageLoop(), -1));
    }

    private static String report(BaggageLoop x) {
        return Check.text(x::report, x::reportByte);
    }

    private static String map(BaggageLoop x) {
        return Check.text(x::map, x::mapByte);
    }

    private static String timetable(BaggageLoop x) {
        return Check.text(x::timetable, x::timetableByte);
    }

    // ---- input

    static void promise1() {
        BaggageLoop x = new BaggageLoop();
        due("NONE", BaggageLoop.NONE, -1);
        due("buffered", x.buffered(), 0);
        due("parseError", x.parseError(), 0);
        due("errorPosition", x.errorPosition(), -1);
        fails("stateOf", ISE, () -> x.stateOf(0));
        fails("undo", ISE, () -> x.undo());
    }

    static void promise2() {
        BaggageLoop x = new BaggageLoop();
        for (int i = 1; i <= 60; i++) {
            due("append " + i, x.append(i, i, i, i, i), 20 * i);
        }
        due("append 61", x.append(1, 2, 3, 4, 5), -1);
        due("buffered", x.buffered(), 1200);
        // The bytes in order, the most significant one first: the error is at the first byte that is wrong.
        BaggageLoop y = new BaggageLoop();
        y.append(0x6c6f6f70, 0x20313020, 0x30203520, 0x6c657665, 0x6c20ff20);
        fails("load", IAE, () -> y.load(20));
        due("errorPosition", y.errorPosition(), 18);
        due("append after load", y.append(-1, -1, -1, -1, -1), 20);
    }

    static void promise3() {
        BaggageLoop x = new BaggageLoop();
        due("load", Check.load(x, BASE), 3);
        due("buffered", x.buffered(), 0);
        x.advance(5);
        x.save(0);
        x.save(1);
        Check.fill(x, BASE);
        int n = x.buffered();
        fails("load -1", IOOBE, () -> x.load(-1));
        fails("load more", IOOBE, () -> x.load(n + 1));
        fails("load MIN", IOOBE, () -> x.load(MIN));
        due("buffered", x.buffered(), n);
        due("parseError", x.parseError(), 0);
        fails("load a part", IAE, () -> x.load(30));
        due("the buffer is empty", x.buffered(), 0);
        due("the airport stays", x.time(), 5);
        due("undoable stays", x.undoable(), 1);
        due("the saved state stays", x.restore(0), 5);
        x.advance(1);
        due("load", Check.load(x, LATE), 1);
        due("time", x.time(), 0);
        due("undoable", x.undoable(), 0);
        fails("restore 0", ISE, () -> x.restore(0));
        fails("restore 1", ISE, () -> x.restore(1));
        due("flights", x.flights(), 1);
        due("state at 0", x.stateOf(0), 1);
        fails("load nothing", IAE, () -> x.load(0));
        due("its error", x.parseError(), 1);
        due("its position", x.errorPosition(), 0);
        due("the airport stays", x.bags(), 1);
        loadAgain();
    }

    /** Nothing of an airport is left in the next ones, in an object that keeps its rows. */
    private static void loadAgain() {
        String full = BASE.replace("bags 0 2 0", "bags 0 40 0;bags 5 9 1") + ";lane 4 5;shift 1 0 2 4;keep laps<1";
        BaggageLoop x = new BaggageLoop();
        for (int round = 0; round < 3; round++) {
            Check.load(x, full);
            x.advance(60);
            x.breakMachine(1, 0, 99);
            x.block(0, true);
            x.stopLoop(99);
            x.setHot(50);
            x.timeToClear(200);
            due("bags with states", x.stateOf(0) > 7 && x.lapsOf(0) + x.levelOf(0) > 0 && x.events() > 0, true);
            Check.load(x, BASE);
            due("events", x.events(), 0);
            due("stoppedUntil", x.stoppedUntil(), 0);
            due("brokenUntil", x.brokenUntil(1, 0), 0);
            due("keeps", x.keeps(), 0);
            due("lanes", x.lanes(), 1);
            due("laneSize", x.laneSize(0), 0);
            due("loopLoad", x.loopLoad(), 0);
            due("waiting", x.waiting(1), 2);
            due("levels and laps", x.levelOf(0) + x.lapsOf(0) + x.levelOf(2) + x.lapsOf(2), 0);
            due("finishedAt", x.finishedAt(0), -1);
            due("states", x.stateOf(0) * 100 + x.stateOf(2), 100);
            due("timeToClear", x.timeToClear(50), 12);
            due("advance", x.advance(12), 3);
            due("events", x.events(), 5);
        }
    }

    static void promise4() {
        BaggageLoop x = new BaggageLoop();
        due("before", x.parseError(), 0);
        fails("load", IAE, () -> Check.load(x, BASE.replace("flight 7", "flight 3")));
        due("error", x.parseError(), 3);
        fails("load", IOOBE, () -> x.load(1));
        due("error stays", x.parseError(), 3);
        Check.load(x, BASE);
        due("no error", x.parseError(), 0);
    }

    static void promise5() {
        BaggageLoop x = new BaggageLoop();
        due("before", x.errorPosition(), -1);
        String text = BASE.replace("lane 2 3", "lane 2 21");
        fails("load", IAE, () -> Check.load(x, text));
        due("position", x.errorPosition(), text.indexOf("21"));
        fails("load", IOOBE, () -> x.load(1));
        due("position stays", x.errorPosition(), text.indexOf("21"));
        Check.load(x, BASE);
        due("no position", x.errorPosition(), -1);
    }

    static void promise6() {
        BaggageLoop x = new BaggageLoop();
        due("empty", x.buffered(), 0);
        x.append(0, 0, 0, 0, 0);
        due("one", x.buffered(), 20);
        fails("load", IAE, () -> x.load(3));
        due("empty again", x.buffered(), 0);
    }

    // ---- bags

    static void promise7() {
        BaggageLoop x = loaded(BASE);
        due("new", x.time(), 0);
        x.advance(7);
        x.loadedIn(9);
        due("7", x.time(), 7);
        x.advance(500);
        due("507", x.time(), 507);
        x.undo();
        due("undone", x.time(), 7);
    }

    static void promise8() {
        BaggageLoop x = loaded(BASE);
        due("bags", x.bags(), 3);
        x.addBags(5, 97, 0);
        due("bags", x.bags(), 100);
        x.undo();
        due("undone", x.bags(), 3);
        due("none", loaded(BASE.substring(0, BASE.indexOf(";bags"))).bags(), 0);
    }

    static void promise9() {
        list("stateOf at 0", at(BASE, 0), (x, i) -> x.stateOf(i), 1, 1, 0);
        list("stateOf at 1", at(BASE, 1), (x, i) -> x.stateOf(i), 1, 1, 2);
        list("stateOf at 3", at(BASE, 3), (x, i) -> x.stateOf(i), 2, 1, 8);
        list("stateOf at 7", at(BASE, 7), (x, i) -> x.stateOf(i), 9, 8, 8);
        list("stateOf at 10", at(BASE, 10), (x, i) -> x.stateOf(i), 8, 9, 10);
        list("stateOf at 12", at(BASE, 12), (x, i) -> x.stateOf(i), 10, 10, 10);
        int[] levels = {1, 2, 4, 6, 12, 12};
        for (int time = 0; time < levels.length; time++) {
            due("through the levels at " + time, at(ALARMS, time).stateOf(0), levels[time]);
        }
        // Level 2 is off shift until 5, level 3 until 8.
        String shifts = ALARMS + ";shift 2 0 0 5;shift 3 0 0 8";
        int[] waits = {1, 2, 3, 3, 3, 3, 4, 5, 5, 6, 12};
        for (int time = 0; time < waits.length; time++) {
            due("waiting at " + time, at(shifts, time).stateOf(0), waits[time]);
        }
        due("short", at(LATE, 5).stateOf(0), 11);
        BaggageLoop x = at(BASE, 12);
        x.offload(1);
        due("offloaded", x.stateOf(1), 13);
    }

    static void promise10() {
        list("flightOf", loaded(BASE), (x, i) -> x.flightOf(i), 0, 0, 1);
        BaggageLoop x = loaded(BASE);
        x.reroute(0, 1);
        due("rerouted", x.flightOf(0), 1);
    }

    static void promise11() {
        list("arrivalOf", loaded(BASE), (x, i) -> x.arrivalOf(i), 0, 0, 1);
        BaggageLoop x = at(BASE, 4);
        x.addBags(6, 1, 1);
        due("added", x.arrivalOf(3), 10);
    }

    static void promise12() {
        list("positionOf at 6", at(BASE, 6), (x, i) -> x.positionOf(i), 1, -1, 3);
        list("positionOf at 7", at(BASE, 7), (x, i) -> x.positionOf(i), -1, 0, 4);
        list("positionOf at 10", at(BASE, 10), (x, i) -> x.positionOf(i), 2, -1, -1);
        // Onto the loop at ENTRY (2) at time 2, and over the end of the loop.
        int[] positions = {-1, -1, 2, 3, 4, 5, 0, 1, 2, 3};
        for (int time = 0; time < positions.length; time++) {
            due("round at " + time, at(ROUND, time).positionOf(0), positions[time]);
        }
    }

    static void promise13() {
        list("lapsOf", at(BASE, 12), (x, i) -> x.lapsOf(i), 0, 0, 0);
        due("before the first lap ends", at(ROUND, 7).lapsOf(0), 0);
        due("one lap", at(ROUND, 8).lapsOf(0), 1);
        due("one lap still", at(ROUND, 13).lapsOf(0), 1);
        due("two laps", at(ROUND, 14).lapsOf(0), 2);
        // A lane keeps the laps: stored in the second lap at 9, back on the loop at 20, loaded at 22.
        String text = "loop 6 2 1 level 1 1 0 level 1 1 0 level 1 1 0 hot 0 seed 0"
                + ";flight 5 20 30;lane 3 1;bags 0 1 0;keep laps<1";
        due("stored", at(text, 9).stateOf(0), 9);
        due("laps in the lane", at(text, 9).lapsOf(0), 1);
        due("laps after the lane", at(text, 20).lapsOf(0), 1);
        due("laps when loaded", at(text, 22).lapsOf(0), 1);
        due("loaded", at(text, 22).stateOf(0), 10);
    }

    static void promise14() {
        list("levelOf", at(BASE, 2), (x, i) -> x.levelOf(i), 0, 0, 1);
        int[] levels = {0, 1, 2, 3, 3};
        for (int time = 0; time < levels.length; time++) {
            due("levelOf at " + time, at(ALARMS, time).levelOf(0), levels[time]);
        }
        due("waiting is not begun", at(ALARMS + ";shift 2 0 0 5", 4).levelOf(0), 1);
    }

    static void promise15() {
        list("laneOf at 7", at(BASE, 7), (x, i) -> x.laneOf(i), 0, -1, -1);
        list("laneOf at 10", at(BASE, 10), (x, i) -> x.laneOf(i), -1, 0, -1);
        BaggageLoop x = loaded(BASE.replace("lane 2 3", "lane 6 1;lane 2 3"));
        x.advance(7);
        due("the second lane", x.laneOf(0), 1);
        x.advance(2);
        due("the second place", x.laneOf(1), 1);
    }

    static void promise16() {
        list("ticksTo at 6", at(BASE, 6), (x, i) -> x.ticksTo(i), 2, -1, 4);
        due("behind it", at(ROUND.replace("flight 5", "flight 1"), 3).ticksTo(0), 4);
        due("at it", at(ROUND, 5).ticksTo(0), 0);
        due("one behind it", at(ROUND, 6).ticksTo(0), 5);
    }

    static void promise17() {
        list("finishedAt at 11", at(BASE, 11), (x, i) -> x.finishedAt(i), 11, -1, 10);
        due("short", at(LATE, 9).finishedAt(0), 5);
        due("rejected", at(ALARMS, 9).finishedAt(0), 4);
        BaggageLoop x = at(BASE, 20);
        x.offload(2);
        due("offloaded", x.finishedAt(2), 20);
        x.undo();
        due("undone", x.finishedAt(2), 10);
    }

    static void promise18() {
        list("isHot at 24", at(BASE, 24), (x, i) -> x.isHot(i), false, false, false);
        list("isHot at 25", at(BASE, 25), (x, i) -> x.isHot(i), false, false, true);
        list("isHot at 60", at(BASE, 60), (x, i) -> x.isHot(i), true, true, true);
        due("before it arrives", loaded(BASE.replace("hot 5", "hot 30")).isHot(2), true);
    }

    static void promise19() {
        list("isKept without keep lines", loaded(BASE), (x, i) -> x.isKept(i), false, false, false);
        list("isKept wait", loaded(BASE + ";keep wait>9"), (x, i) -> x.isKept(i), true, true, false);
        list("isKept wait at 1", at(BASE + ";keep wait>9", 1), (x, i) -> x.isKept(i), false, false, false);
        list("isKept wait is at least 0", at(BASE + ";keep wait=0", 20), (x, i) -> x.isKept(i), true, true, true);
        list("isKept two lines", loaded(BASE + ";keep time>0;keep wait=0"), (x, i) -> x.isKept(i), false, false, true);
        list("isKept load", at(BASE + ";keep load=2", 6), (x, i) -> x.isKept(i), true, true, true);
        list("isKept load", at(BASE + ";keep load>2", 6), (x, i) -> x.isKept(i), false, false, false);
        list("isKept level", at(BASE + ";keep level=1", 3), (x, i) -> x.isKept(i), true, false, true);
        list("isKept time", at(BASE + ";keep time<7", 6), (x, i) -> x.isKept(i), true, true, true);
        list("isKept time", at(BASE + ";keep time<7", 7), (x, i) -> x.isKept(i), false, false, false);
        due("isKept laps", at(ROUND + ";keep laps=1", 8).isKept(0), true);
        due("isKept laps", at(ROUND + ";keep laps=1", 7).isKept(0), false);
        tests();
    }

    private static void tests() {
        kept("time=0", true);
        kept("time<0 or time=0 and time=0", true);
        // The same rank, from left to right: (true or false) and false.
        kept("time=0 or time=1 and time=1", false);
        kept("time=0 or (time=1 and time=1)", true);
        // (false and true) or true.
        kept("time=1 and time=0 or time=0", true);
        kept("time=1 and (time=0 or time=0)", false);
        // A not belongs to the unit behind it alone.
        kept("not time=1 and time=1", false);
        kept("not time=0 or time=0", true);
        kept("not (time=0 or time=0)", false);
        kept("not not time=0", true);
        kept("not not not time=0", false);
        kept("time = 0 and(time>0 or(time<1 and not(load>0)))", true);
        kept("time<9999 and time>0", false);
        kept("((((((((time=0))))))))", true);
        kept("not (time=0 and not (time=0 and not (time=0 and not (time=0 and time=1))))", false);
        kept("not (time=0 and not (time=0 and not (time=0 and not (time=0 and time=0))))", true);
    }

    private static void kept(String test, boolean want) {
        due("keep " + test, loaded(BASE + ";keep " + test).isKept(0), want);
    }

    // ---- the loop, the queues and the lanes

    static void promise20() {
        list("bagAt at 6", at(BASE, 6), (x, i) -> x.bagAt(i), -1, 0, -1, 2, -1, -1, -1, -1, -1, -1);
        list("bagAt at 7", at(BASE, 7), (x, i) -> x.bagAt(i), 1, -1, -1, -1, 2, -1, -1, -1, -1, -1);
    }

    static void promise21() {
        int[] loads = {0, 0, 0, 1, 1, 2, 2, 2, 2, 1, 1, 1, 0};
        for (int time = 0; time < loads.length; time++) {
            due("loopLoad at " + time, at(BASE, time).loopLoad(), loads[time]);
        }
    }

    static void promise22() {
        BaggageLoop x = at(BASE, 1);
        due("waiting 1", x.waiting(1), 2);
        due("waiting 2", x.waiting(2), 0);
        due("waiting 3", x.waiting(3), 0);
        due("waiting 4", x.waiting(4), 0);
        for (int wrong : new int[] {0, 5, -1, MIN, MAX}) {
            fails("waiting " + wrong, IAE, () -> x.waiting(wrong));
        }
        BaggageLoop y = loaded(ALARMS + ";shift 2 0 0 5;shift 3 0 0 8");
        y.advance(3);
        due("waiting 2", y.waiting(2), 1);
        y.advance(4);
        due("waiting 3", y.waiting(3), 1);
        // Four machines hand four bags to the loop at once; one of them finds room.
        due("waiting 4", at(BASE.replace("level 1 2", "level 4 2").replace("0 2 0", "0 4 0"), 3).waiting(4), 3);
    }

    static void promise23() {
        BaggageLoop x = at(BASE, 0);
        due("queueAt 1 0", x.queueAt(1, 0), 0);
        due("queueAt 1 1", x.queueAt(1, 1), 1);
        for (int wrong : new int[] {-1, 2, MIN, MAX}) {
            fails("queueAt 1 " + wrong, IOOBE, () -> x.queueAt(1, wrong));
        }
        for (int wrong : new int[] {-1, 0, 5, 2, 3, 4, MIN, MAX}) {
            fails("queueAt " + wrong + " 0", IOOBE, () -> x.queueAt(wrong, 0));
        }
        fails("queueAt 5 0 with stored bags", IOOBE, () -> at(BASE, 9).queueAt(5, 0));
        // CLOSE, then the arrival, then the number: bags 3 and 4 close first, 2 arrives before 0 and 1.
        String text = "loop 10 0 5 level 1 99 0 level 1 1 0 level 1 1 0 hot 5 seed 1"
                + ";flight 3 10 40;flight 7 0 30;bags 2 2 0;bags 1 1 0;bags 2 2 1;shift 1 0 0 1999";
        BaggageLoop y = at(text, 2);
        int[] order = {3, 4, 2, 0, 1};
        for (int i = 0; i < order.length; i++) {
            due("queueAt 1 " + i, y.queueAt(1, i), order[i]);
        }
        y.delay(1, 10);
        int[] sameClose = {2, 0, 1, 3, 4};
        for (int i = 0; i < sameClose.length; i++) {
            due("queueAt 1 " + i + " with the same CLOSE", y.queueAt(1, i), sameClose[i]);
        }
        BaggageLoop z = at(BASE.replace("level 1 2", "level 4 2").replace("0 2 0", "0 4 0"), 3);
        due("queueAt 4 0", z.queueAt(4, 0), 0);
        due("queueAt 4 2", z.queueAt(4, 2), 2);
    }

    static void promise24() {
        BaggageLoop x = at(BASE, 3);
        due("machineAt 1 0", x.machineAt(1, 0), 0);
        due("machineAt 2 0", x.machineAt(2, 0), -1);
        due("machineAt 3 0", at(ALARMS, 3).machineAt(3, 0), 0);
        BaggageLoop y = at(BASE.replace("level 1 2", "level 4 2"), 1);
        due("machineAt 1 0 of four", y.machineAt(1, 0), 2);
        due("machineAt 1 1 of four", y.machineAt(1, 1), 0);
        due("machineAt 1 2 of four", y.machineAt(1, 2), 1);
        due("machineAt 1 3 of four", y.machineAt(1, 3), -1);
        wrongMachines("machineAt", x, (z, level, machine) -> z.machineAt(level, machine));
    }

    private interface OfMachine {
        void call(BaggageLoop x, int level, int machine);
    }

    private static void wrongMachines(String what, BaggageLoop x, OfMachine call) {
        int[][] wrong = {{0, 0}, {4, 0}, {-1, 0}, {1, -1}, {1, 1}, {3, 1}, {MIN, 0}, {MAX, 0}, {1, MIN}, {1, MAX}};
        for (int[] w : wrong) {
            fails(what + " " + w[0] + " " + w[1], IOOBE, () -> call.call(x, w[0], w[1]));
        }
        fails(what + " without an airport", ISE, () -> call.call(new BaggageLoop(), 0, 0));
    }

    static void promise25() {
        BaggageLoop x = at(BASE, 3);
        due("never", x.brokenUntil(1, 0), 0);
        x.breakMachine(1, 0, 4);
        due("now", x.brokenUntil(1, 0), 7);
        x.advance(30);
        due("over", x.brokenUntil(1, 0), 7);
        due("another one", x.brokenUntil(2, 0), 0);
        due("a shift is no break", at(BASE + ";shift 1 0 0 99", 5).brokenUntil(1, 0), 0);
        wrongMachines("brokenUntil", x, (z, level, machine) -> z.brokenUntil(level, machine));
    }

    static void promise26() {
        BaggageLoop x = at(BASE, 3);
        due("never", x.stoppedUntil(), 0);
        x.stopLoop(4);
        due("now", x.stoppedUntil(), 7);
        x.advance(10);
        due("over", x.stoppedUntil(), 7);
        x.stopLoop(0);
        due("with 0", x.stoppedUntil(), 13);
        x.undo();
        due("undone", x.stoppedUntil(), 7);
        Check.load(x, BASE);
        due("loaded again", x.stoppedUntil(), 0);
    }

    static void promise27() {
        due("lanes", loaded(BASE).lanes(), 1);
        due("four lanes", loaded(BASE + ";lane 1 1;lane 4 1;lane 6 1").lanes(), 4);
        due("no lane", loaded(LATE).lanes(), 0);
    }

    static void promise28() {
        list("laneSize at 6", at(BASE, 6), (x, i) -> x.laneSize(i), 0);
        list("laneSize at 7", at(BASE, 7), (x, i) -> x.laneSize(i), 1);
        list("laneSize at 9", at(BASE, 9), (x, i) -> x.laneSize(i), 2);
        list("laneSize at 10", at(BASE, 10), (x, i) -> x.laneSize(i), 1);
        list("laneSize at 11", at(BASE, 11), (x, i) -> x.laneSize(i), 0);
        list("no lane", loaded(LATE), (x, i) -> x.laneSize(i));
    }

    static void promise29() {
        list("laneAt at 9", at(BASE, 9), (x, i) -> x.laneAt(0, i), 0, 1);
        list("laneAt at 10", at(BASE, 10), (x, i) -> x.laneAt(0, i), 1);
        list("laneAt at 11", at(BASE, 11), (x, i) -> x.laneAt(0, i));
        for (int wrong : new int[] {-1, 1, MIN, MAX}) {
            fails("laneAt " + wrong, IOOBE, () -> at(BASE, 9).laneAt(wrong, 0));
        }
    }

    static void promise30() {
        due("no keep line", loaded(BASE).keeps(), 0);
        due("three keep lines", loaded(BASE + ";keep load<1;keep time>1;keep wait=9999").keeps(), 3);
        BaggageLoop x = loaded(BASE + ";keep load<1");
        Check.load(x, BASE);
        due("loaded again", x.keeps(), 0);
    }

    // ---- flights

    static void promise31() {
        due("flights", loaded(BASE).flights(), 2);
        due("eight flights", loaded(EIGHT).flights(), 8);
    }

    private static final String EIGHT = "loop 10 0 5 level 1 1 0 level 1 1 0 level 1 1 0 hot 5 seed 1;flight 1 0 9"
            + ";flight 2 0 8;flight 3 0 7;flight 4 0 6;flight 6 0 5;flight 7 0 6;flight 8 0 3;flight 9 999 1999";

    static void promise32() {
        list("flightState at 0", at(BASE, 0), (x, i) -> x.flightState(i), 0, 1);
        list("flightState at 9", at(BASE, 9), (x, i) -> x.flightState(i), 0, 1);
        list("flightState at 10", at(BASE, 10), (x, i) -> x.flightState(i), 1, 1);
        list("flightState at 29", at(BASE, 29), (x, i) -> x.flightState(i), 1, 1);
        list("flightState at 30", at(BASE, 30), (x, i) -> x.flightState(i), 1, 2);
        list("flightState at 40", at(BASE, 40), (x, i) -> x.flightState(i), 2, 2);
    }

    static void promise33() {
        list("openOf", loaded(BASE), (x, i) -> x.openOf(i), 10, 0);
    }

    static void promise34() {
        list("closeOf", loaded(BASE), (x, i) -> x.closeOf(i), 40, 30);
    }

    static void promise35() {
        BaggageLoop x = at(BASE, 10);
        int[] first = {0, 0, 0, 0, 0, 0, 0, 0, 1, 1, 0, 0, 0, 0};
        for (int state = 0; state < 14; state++) {
            due("countOf 0 " + state, x.countOf(0, state), first[state]);
            due("countOf 1 " + state, x.countOf(1, state), state == 10 ? 1 : 0);
        }
        list("countOf", loaded(BASE), (y, i) -> y.countOf(i, 1), 2, 0);
        for (int wrong : new int[] {-1, 14, MIN, MAX}) {
            fails("countOf 0 " + wrong, IAE, () -> x.countOf(0, wrong));
            fails("countOf 2 " + wrong, IOOBE, () -> x.countOf(2, wrong));
        }
    }

    static void promise36() {
        list("missing at 0", at(BASE, 0), (x, i) -> x.missing(i), 2, 1);
        list("missing at 10", at(BASE, 10), (x, i) -> x.missing(i), 2, 0);
        list("missing at 11", at(BASE, 11), (x, i) -> x.missing(i), 1, 0);
        due("short is not missing", at(LATE, 5).missing(0), 0);
        due("rejected is not missing", at(ALARMS, 4).missing(0), 0);
        BaggageLoop x = at(BASE, 12);
        x.offload(0);
        due("offloaded is not missing", x.missing(0), 0);
    }

    static void promise37() {
        list("loadedShare at 10", at(BASE, 10), (x, i) -> x.loadedShare(i), 0.0f, 1.0f);
        list("loadedShare at 11", at(BASE, 11), (x, i) -> x.loadedShare(i), 0.5f, 1.0f);
        due("no bags", loaded(EIGHT).loadedShare(0), 0.0f);
        BaggageLoop x = at(BASE, 11);
        x.addBags(900, 1, 0);
        due("a third", x.loadedShare(0), 1.0f / 3.0f);
    }

    static void promise38() {
        BaggageLoop x = at(BASE, 12);
        due("percentile 1", x.percentile(0, 1), 11);
        due("percentile 50", x.percentile(0, 50), 11);
        due("percentile 51", x.percentile(0, 51), 12);
        due("percentile 100", x.percentile(0, 100), 12);
        due("percentile of one", x.percentile(1, 1), 9);
        due("percentile of none", at(BASE, 9).percentile(1, 50), -1);
        list("percentile", x, (y, i) -> y.percentile(i, 100), 12, 9);
        for (int wrong : new int[] {0, 101, -1, MIN, MAX}) {
            fails("percentile 0 " + wrong, IAE, () -> x.percentile(0, wrong));
            fails("percentile 2 " + wrong, IOOBE, () -> x.percentile(2, wrong));
        }
        x.offload(1);
        due("offloaded bags do not count", x.percentile(0, 100), 11);
        due("short bags do not count", at(LATE, 9).percentile(0, 100), -1);
        // Times 9 and 8, in the order of the numbers.
        BaggageLoop w = at("loop 10 0 5 level 4 1 0 level 1 1 0 level 1 1 0 hot 5 seed 1;flight 7 0 40;bags 0 1 0"
                + ";bags 5 1 0", 30);
        due("percentile 50 of 9 and 8", w.percentile(0, 50), 8);
        due("percentile 51 of 9 and 8", w.percentile(0, 51), 9);
        // Three times 9, 10, 11: the ranks are 1 up to 33 percent, 2 up to 66.
        String text = "loop 10 0 5 level 4 1 0 level 1 1 0 level 1 1 0 hot 5 seed 1;flight 7 0 40;bags 0 3 0";
        BaggageLoop y = at(text, 30);
        int[][] ranks = {{33, 9}, {34, 10}, {66, 10}, {67, 11}, {100, 11}};
        for (int[] r : ranks) {
            due("percentile " + r[0] + " of three", y.percentile(0, r[0]), r[1]);
        }
    }

    static void promise39() {
        list("worstFlight of missing bags", at(BASE, 0), (x, i) -> x.worstFlight(i), 0, 1);
        list("worstFlight of nothing", at(BASE, 12), (x, i) -> x.worstFlight(i), 0, 1);
        list("worstFlight by numbers", at(EIGHT, 0), (x, i) -> x.worstFlight(i), 0, 1, 2, 3, 4, 5, 6, 7);
        // Flight 2 has a short bag, flight 1 two missing ones, flight 0 one.
        String text = LATE.replace("flight 5 0 1", "flight 5 900 999;flight 6 900 999;flight 7 0 1")
                .replace("bags 0 1 0", "bags 0 1 2;bags 99 1 0;bags 99 2 1");
        list("worstFlight with short bags", at(text, 5), (x, i) -> x.worstFlight(i), 2, 1, 0);
        list("worstFlight before", at(text, 4), (x, i) -> x.worstFlight(i), 1, 0, 2);
    }

    // ---- the log and the report

    static void promise40() {
        int[][] counts = {{0, 0}, {6, 0}, {7, 1}, {9, 2}, {10, 3}, {11, 4}, {12, 5}, {500, 5}};
        for (int[] c : counts) {
            due("events at " + c[0], at(BASE, c[0]).events(), c[1]);
        }
        BaggageLoop x = at(BASE, 12);
        x.offload(0);
        due("offload is one", x.events(), 6);
        x.undo();
        due("undone", x.events(), 5);
        due("rejected is one", at(ALARMS, 4).events(), 1);
        due("short is one", at(LATE, 5).events(), 1);
        fullLog();
    }

    /** 100 bags are stored, one of them twice, loaded and offloaded: these are 301 events. */
    private static void fullLog() {
        String text = "loop 10 0 9 level 4 1 0 level 1 1 0 level 1 1 0 hot 0 seed 0;flight 8 400 1999;flight 7 500 1999"
                + ";lane 2 20;lane 3 20;lane 4 20;lane 5 20;bags 0 80 0;bags 410 20 1";
        BaggageLoop x = loaded(text);
        x.advance(399);
        due("stored", x.events(), 80);
        x.advance(1);
        x.reroute(x.bagAt(2), 1);
        x.advance(1);
        due("stored again", x.event(80, 1), 9);
        x.advance(300);
        due("all loaded", x.events(), 201);
        for (int bag = 0; bag < 99; bag++) {
            x.offload(bag);
        }
        due("full", x.events(), 300);
        x.offload(99);
        due("still full", x.events(), 300);
        due("the last one", x.event(299, 2), 98);
        due("its state", x.event(299, 1), 13);
        fails("no more", IOOBE, () -> x.event(300, 0));
    }

    static void promise41() {
        int[][] want = {{7, 9, 0, 0}, {9, 9, 1, 0}, {10, 10, 2, 1}, {11, 10, 0, 0}, {12, 10, 1, 0}};
        BaggageLoop x = at(BASE, 15);
        for (int i = 0; i < want.length; i++) {
            for (int what = 0; what < 4; what++) {
                due("event " + i + " " + what, x.event(i, what), want[i][what]);
            }
        }
        list("event times", x, (y, i) -> y.event(i, 0), 7, 9, 10, 11, 12);
        for (int wrong : new int[] {-1, 4, MIN, MAX}) {
            fails("event 0 " + wrong, IAE, () -> x.event(0, wrong));
            fails("event 5 " + wrong, IOOBE, () -> x.event(5, wrong));
        }
        x.offload(2);
        due("offloaded: time", x.event(5, 0), 15);
        due("offloaded: state", x.event(5, 1), 13);
        due("offloaded: bag", x.event(5, 2), 2);
        due("offloaded: flight", x.event(5, 3), 1);
        due("short", at(LATE, 5).event(0, 1), 11);
        due("rejected", at(ALARMS, 5).event(0, 1), 12);
        // The flight that it had then.
        BaggageLoop y = at(BASE, 7);
        y.reroute(0, 1);
        due("flight then", y.event(0, 3), 0);
        // The last numbers that fit: bag 99 and flight 7.
        BaggageLoop z = loaded(EIGHT.replace("999 1999", "0 1999") + ";bags 0 100 7");
        z.advance(300);
        due("100 events", z.events(), 100);
        due("bag 99", z.event(99, 2), 99);
        due("flight 7", z.event(99, 3), 7);
    }

    static void promise42() {
        due("report at 0", report(at(BASE, 0)), "0/2;0/1");
        due("report at 10", report(at(BASE, 10)), "0/2;1/1");
        due("report at 12", report(at(BASE, 12)), "2/2;1/1");
        due("report of short bags", report(at(LATE, 5)), "0/1-1");
        due("report before they are short", report(at(LATE, 4)), "0/1");
        due("report of rejected bags", report(at(ALARMS, 9)), "0/1");
        BaggageLoop x = at(BASE, 12);
        x.addBags(1, 97, 1);
        due("report of many bags", report(x), "2/2;1/98");
        x.offload(0);
        due("report after offload", report(x), "1/2;1/98");
        due("report of eight flights", report(loaded(EIGHT)), "0/0;0/0;0/0;0/0;0/0;0/0;0/0;0/0");
        // Every bag of a hundred is short.
        due("report of 100 short bags", report(at(LATE.replace("0 1 0", "0 100 0"), 400)), "0/100-100");
    }

    static void promise43() {
        BaggageLoop x = new BaggageLoop();
        fails("reportByte before", IOOBE, () -> x.reportByte(0));
        fails("report without an airport", ISE, () -> x.report());
        fails("reportByte still", IOOBE, () -> x.reportByte(0));
        Check.load(x, BASE);
        fails("reportByte after load", IOOBE, () -> x.reportByte(0));
        due("report", x.report(), 7);
        due("first", x.reportByte(0), (int) '0');
        due("second", x.reportByte(1), (int) '/');
        due("last", x.reportByte(6), (int) '1');
        for (int wrong : new int[] {-1, 7, MIN, MAX}) {
            fails("reportByte " + wrong, IOOBE, () -> x.reportByte(wrong));
        }
        x.advance(12);
        Check.load(x, LATE);
        due("the text stays", x.reportByte(6), (int) '1');
        x.report();
        fails("a shorter text replaces it", IOOBE, () -> x.reportByte(3));
    }

    // ---- what-if questions

    static void promise44() {
        due("map at 0", map(at(BASE, 0)), "..........");
        due("map at 6", map(at(BASE, 6)), ".A.B......");
        due("map at 7", map(at(BASE, 7)), "A...B.....");
        due("map of the longest loop", at(BASE.replace("loop 10", "loop 40"), 1).map(), 40);
        BaggageLoop x = loaded(EIGHT + ";bags 0 1 7");
        x.advance(3);
        due("map of flight 7", map(x), ".H........");
    }

    static void promise45() {
        BaggageLoop x = new BaggageLoop();
        fails("mapByte before", IOOBE, () -> x.mapByte(0));
        Check.load(x, BASE);
        fails("mapByte after load", IOOBE, () -> x.mapByte(0));
        x.advance(6);
        due("map", x.map(), 10);
        due("byte", x.mapByte(3), (int) 'B');
        x.advance(1);
        due("the text stays", x.mapByte(3), (int) 'B');
        x.undo();
        due("undo has nothing to do with it", x.mapByte(3), (int) 'B');
        for (int wrong : new int[] {-1, 10, MIN, MAX}) {
            fails("mapByte " + wrong, IOOBE, () -> x.mapByte(wrong));
        }
        Check.load(x, LATE);
        due("the text stays after load", x.mapByte(9), (int) '.');
        x.map();
        fails("a shorter one replaces it", IOOBE, () -> x.mapByte(8));
    }

    static void promise46() {
        due("timetable at 0", timetable(at(BASE, 0)), "B0-30;A10-40");
        due("timetable at 7", timetable(at(BASE, 7)), "B0-30;A10-40,0x1");
        due("timetable at 9", timetable(at(BASE, 9)), "B0-30;A10-40,0x2");
        due("timetable of eight flights", timetable(loaded(EIGHT)),
                "G0-3;E0-5;D0-6;F0-6;C0-7;B0-8;A0-9;H999-1999");
        BaggageLoop x = at(BASE, 9);
        x.reroute(0, 1);
        due("timetable with two flights in a lane", timetable(x), "B0-30,0x1;A10-40,0x1");
        x.delay(1, 10);
        due("timetable with the same CLOSE", timetable(x), "A10-40,0x1;B0-40,0x1");
        due("two lanes", timetable(at(BASE.replace("lane 2 3", "lane 2 1;lane 4 3"), 9)), "B0-30;A10-40,0x1");
        due("two lanes later", timetable(at(BASE.replace("lane 2 3", "lane 2 1;lane 4 3").replace("10 40", "20 40"),
                11)), "B0-30;A20-40,0x1,1x1");
        BaggageLoop y = loaded(EIGHT);
        for (int i = 0; i < 400; i++) {
            y.delay(7, 999);
        }
        due("timetable of long numbers", timetable(y),
                "G0-3;E0-5;D0-6;F0-6;C0-7;B0-8;A0-9;H400599-401599");
    }

    static void promise47() {
        BaggageLoop x = new BaggageLoop();
        fails("timetableByte before", IOOBE, () -> x.timetableByte(0));
        Check.load(x, BASE);
        due("timetable", x.timetable(), 12);
        due("first", x.timetableByte(0), (int) 'B');
        due("last", x.timetableByte(11), (int) '0');
        for (int wrong : new int[] {-1, 12, MIN, MAX}) {
            fails("timetableByte " + wrong, IOOBE, () -> x.timetableByte(wrong));
        }
        Check.load(x, LATE);
        due("the text stays", x.timetableByte(0), (int) 'B');
        due("timetable", x.timetable(), 4);
        fails("a shorter one replaces it", IOOBE, () -> x.timetableByte(4));
    }

    private static final int[] NOT_1_TO_500 = {0, 501, -1, MIN, MAX};

    static void promise48() {
        BaggageLoop x = loaded(BASE);
        int[][] want = {{1, 0}, {9, 0}, {10, 1}, {11, 2}, {12, 3}, {500, 3}};
        for (int[] w : want) {
            due("loadedIn " + w[0], x.loadedIn(w[0]), w[1]);
        }
        due("nothing changed", report(x), "0/2;0/1");
        due("no change", x.undoable(), 0);
        due("later", at(BASE, 11).loadedIn(5), 1);
        wrongTicks("loadedIn", (y, n) -> y.loadedIn(n), NOT_1_TO_500);
    }

    static void promise49() {
        BaggageLoop x = loaded(LATE);
        due("shortIn 4", x.shortIn(4), 0);
        due("shortIn 5", x.shortIn(5), 1);
        due("shortIn 500", x.shortIn(500), 1);
        due("nothing changed", x.time(), 0);
        due("later", at(LATE, 5).shortIn(5), 0);
        wrongTicks("shortIn", (y, n) -> y.shortIn(n), NOT_1_TO_500);
    }

    static void promise50() {
        BaggageLoop x = loaded(BASE);
        due("timeToClear 12", x.timeToClear(12), 12);
        due("timeToClear 11", x.timeToClear(11), -1);
        due("timeToClear 500", x.timeToClear(500), 12);
        due("nothing changed", x.time(), 0);
        due("later", at(BASE, 5).timeToClear(7), 7);
        due("clear", at(BASE, 12).timeToClear(1), 0);
        due("no bags", loaded(EIGHT).timeToClear(1), 0);
        due("short", loaded(LATE).timeToClear(99), 5);
        due("rejected", loaded(ALARMS).timeToClear(99), 4);
        due("never", loaded(ROUND).timeToClear(500), -1);
        BaggageLoop y = at(BASE, 12);
        y.addBags(999, 1, 0);
        due("a bag that has not arrived", y.timeToClear(500), -1);
        wrongTicks("timeToClear", (z, n) -> z.timeToClear(n), NOT_1_TO_500);
    }

    /** Wrong numbers of ticks, the last possible time, and the order of the exceptions. */
    private static void wrongTicks(String what, Of call, int[] wrong) {
        BaggageLoop x = loaded(BASE);
        for (int n : wrong) {
            fails(what + " " + n, IAE, () -> call.answer(x, n));
            fails(what + " " + n + " without an airport", ISE, () -> call.answer(new BaggageLoop(), n));
        }
        due(what + ": nothing changed", x.undoable(), 0);
        for (int i = 0; i < 11; i++) {
            x.delay(0, 999);
        }
        for (int i = 0; i < 19; i++) {
            x.advance(500);
        }
        x.advance(498);
        due("the time", x.time(), 9998);
        fails(what + " 2 at 9998", IAE, () -> call.answer(x, 2));
        call.answer(x, 1);
    }

    static void promise51() {
        BaggageLoop x = loaded(LATE);
        // Short at 5 without a delay, at 13 with a delay of 5, and loaded at 7 with one of 10.
        int[][] want = {{4, 0}, {5, 5}, {12, 5}, {13, 10}, {200, 10}};
        for (int[] w : want) {
            due("bestDelay 0 " + w[0], x.bestDelay(0, w[0]), w[1]);
        }
        due("nothing changed", x.closeOf(0), 1);
        due("no change", x.undoable(), 0);
        fails("closed", IAE, () -> at(LATE, 1).bestDelay(0, 5));
        list("bestDelay", loaded(BASE), (y, i) -> y.bestDelay(i, 200), 0, 0);
        wrongTicks("bestDelay", (y, n) -> y.bestDelay(0, n), new int[] {0, 201, -1, MIN, MAX});
        fails("no flight first", IOOBE, () -> x.bestDelay(1, 0));
        // With T ticks in the machine the bag is at its flight at T + 6, which must be less than 1 + the delay.
        String text = LATE.replaceFirst("level 1 1", "level 1 60");
        due("nothing helps", loaded(text).bestDelay(0, 200), 0);
        String text44 = LATE.replaceFirst("level 1 1", "level 1 44");
        due("50 helps", loaded(text44).bestDelay(0, 200), 50);
        String text45 = LATE.replaceFirst("level 1 1", "level 1 45");
        due("50 would be too little", loaded(text45).bestDelay(0, 200), 0);
    }

    static void promise52() {
        BaggageLoop x = loaded(BASE);
        // Without the lane bag 1 is loaded at 10, and bag 0 after one more round at 18.
        int[][] want = {{9, 0}, {10, 2}, {12, 2}, {17, 2}, {18, 3}, {500, 3}};
        for (int[] w : want) {
            due("withoutLane 0 " + w[0], x.withoutLane(0, w[0]), w[1]);
        }
        due("nothing changed", x.loadedIn(12), 3);
        due("no change", x.undoable(), 0);
        due("not blocked", x.block(0, false), false);
        due("bags in it leave", at(BASE, 9).withoutLane(0, 3), 3);
        list("withoutLane", loaded(BASE), (y, i) -> y.withoutLane(i, 10), 2);
        wrongTicks("withoutLane", (y, n) -> y.withoutLane(0, n), NOT_1_TO_500);
        fails("no lane first", IOOBE, () -> x.withoutLane(1, 0));
    }

    // ---- changes

    static void promise53() {
        BaggageLoop x = loaded(BASE);
        due("advance 9", x.advance(9), 0);
        due("advance 2", x.advance(2), 2);
        due("time", x.time(), 11);
        due("two changes", x.undoable(), 2);
        due("advance 500", x.advance(500), 1);
        due("advance in one", loaded(BASE).advance(12), 3);
        x.undo();
        x.undo();
        due("one change", x.time(), 9);
        wrongTicks("advance", (y, n) -> y.advance(n), NOT_1_TO_500);
    }

    static void promise54() {
        BaggageLoop x = at(BASE, 4);
        due("addBags", x.addBags(6, 2, 1), 3);
        due("bags", x.bags(), 5);
        due("changes", x.undoable(), 2);
        for (int bag = 3; bag < 5; bag++) {
            due("arrivalOf " + bag, x.arrivalOf(bag), 10);
            due("flightOf " + bag, x.flightOf(bag), 1);
            due("stateOf " + bag, x.stateOf(bag), 0);
            due("levelOf " + bag, x.levelOf(bag), 0);
            due("finishedAt " + bag, x.finishedAt(bag), -1);
        }
        x.advance(5);
        due("before it arrives", x.stateOf(4), 0);
        x.advance(1);
        due("when it arrives", x.stateOf(4), 1);
        for (int wrong : new int[] {0, 1000, -1, MIN, MAX}) {
            fails("addBags delay " + wrong, IAE, () -> x.addBags(wrong, 1, 0));
        }
        for (int wrong : new int[] {0, 96, -1, MIN, MAX}) {
            fails("addBags count " + wrong, IAE, () -> x.addBags(1, wrong, 0));
        }
        for (int wrong : new int[] {2, -1, MIN, MAX}) {
            fails("addBags flight " + wrong, IOOBE, () -> x.addBags(0, 0, wrong));
        }
        due("nothing changed", x.undoable(), 4);
        due("the last ones", x.addBags(999, 95, 0), 5);
        fails("no more", IAE, () -> x.addBags(1, 1, 0));
        // What a bag with the same number was before an undo is forgotten.
        BaggageLoop y = at(BASE, 12);
        y.addBags(1, 1, 1);
        y.advance(20);
        due("loaded", y.stateOf(3), 10);
        y.undo();
        y.undo();
        y.addBags(2, 1, 0);
        due("new", y.stateOf(3) + y.levelOf(3) + y.lapsOf(3), 0);
        due("not finished", y.finishedAt(3), -1);
    }

    static void promise55() {
        BaggageLoop x = loaded(BASE);
        due("delay a flight that is not open yet", x.delay(0, 5), 45);
        due("its OPEN", x.openOf(0), 15);
        due("its CLOSE", x.closeOf(0), 45);
        due("delay an open flight", x.delay(1, 999), 1029);
        due("its OPEN", x.openOf(1), 0);
        due("changes", x.undoable(), 2);
        x.advance(44);
        due("the last tick", x.delay(0, 1), 46);
        x.advance(2);
        fails("closed", IAE, () -> x.delay(0, 1));
        for (int wrong : new int[] {0, 1000, -1, MIN, MAX}) {
            fails("delay 1 " + wrong, IAE, () -> x.delay(1, wrong));
        }
        due("nothing changed", x.undoable(), 5);
        list("delay", loaded(BASE), (y, i) -> y.delay(i, 1), 41, 31);
        fails("no flight first", IOOBE, () -> x.delay(2, 0));
    }

    static void promise56() {
        BaggageLoop x = at(BASE, 12);
        due("offload 0", x.offload(0), 1);
        due("offload 1", x.offload(1), 0);
        due("state", x.stateOf(0), 13);
        due("changes", x.undoable(), 3);
        fails("offloaded already", IAE, () -> x.offload(0));
        fails("rejected", IAE, () -> at(ALARMS, 9).offload(0));
        fails("short", IAE, () -> at(LATE, 9).offload(0));
        fails("stored", IAE, () -> at(BASE, 7).offload(0));
        due("nothing changed", x.undoable(), 3);
        x.advance(100);
        due("it stays so", x.stateOf(0), 13);
        list("offload", at(BASE, 12), (y, i) -> y.offload(i), 1, 0, 0);
    }

    static void promise57() {
        BaggageLoop x = at(BASE, 6);
        due("block", x.block(0, true), false);
        due("again", x.block(0, true), true);
        due("changes", x.undoable(), 3);
        x.advance(1);
        due("not stored", x.stateOf(0), 8);
        due("end it", x.block(0, false), true);
        due("again", x.block(0, false), false);
        x.advance(2);
        due("stored", x.stateOf(1), 9);
        BaggageLoop y = at(BASE, 9);
        y.block(0, true);
        due("those in it leave", y.advance(3), 3);
        list("block", loaded(BASE), (z, i) -> z.block(i, true), false);
        list("block without lanes", loaded(LATE), (z, i) -> z.block(i, true));
    }

    static void promise58() {
        BaggageLoop x = loaded(BASE);
        due("setHot", x.setHot(29), 5);
        due("not hot", x.isHot(2), false);
        due("setHot", x.setHot(30), 29);
        due("hot", x.isHot(2), true);
        due("setHot 0", x.setHot(0), 30);
        due("setHot 999", x.setHot(999), 0);
        for (int wrong : new int[] {-1, 1000, MIN, MAX}) {
            fails("setHot " + wrong, IAE, () -> x.setHot(wrong));
        }
        due("changes", x.undoable(), 4);
        x.undo();
        x.undo();
        due("undone", x.setHot(1), 30);
    }

    static void promise59() {
        BaggageLoop x = at(BASE, 1);
        due("break", x.breakMachine(1, 0, 3), true);
        due("shorter", x.breakMachine(1, 0, 2), false);
        due("the same", x.breakMachine(1, 0, 3), false);
        due("it stays", x.brokenUntil(1, 0), 4);
        due("changes", x.undoable(), 4);
        x.advance(4);
        due("the bag in it stays", x.machineAt(1, 0), 2);
        x.advance(1);
        due("and leaves later", x.stateOf(2), 8);
        due("break again", x.breakMachine(1, 0, 999), true);
        due("until", x.brokenUntil(1, 0), 1005);
        BaggageLoop y = loaded(BASE);
        y.breakMachine(1, 0, 2);
        y.advance(2);
        due("a broken machine takes no bag", y.machineAt(1, 0), -1);
        y.advance(1);
        due("and takes one later", y.machineAt(1, 0), 2);
        for (int wrong : new int[] {0, 1000, -1, MIN, MAX}) {
            fails("breakMachine 1 0 " + wrong, IAE, () -> y.breakMachine(1, 0, wrong));
        }
        wrongMachines("breakMachine", y, (z, level, machine) -> z.breakMachine(level, machine, 0));
        due("nothing changed", y.undoable(), 3);
        due("for one tick", y.breakMachine(2, 0, 1), true);
        due("until", y.brokenUntil(2, 0), 4);
    }

    static void promise60() {
        BaggageLoop x = at(BASE, 6);
        due("stop", x.stopLoop(2), 8);
        x.advance(2);
        due("bag 0 stands", x.positionOf(0), 1);
        due("bag 2 stands", x.positionOf(2), 3);
        due("bag 1 came onto the loop", x.positionOf(1), 0);
        x.advance(1);
        due("bag 2 moves", x.positionOf(2), 4);
        due("bag 0 is stored", x.stateOf(0), 9);
        due("stop", x.stopLoop(999), 1008);
        due("in place of it", x.stopLoop(1), 10);
        due("not any more", x.stopLoop(0), 9);
        x.advance(1);
        due("it moves", x.positionOf(2), 5);
        for (int wrong : new int[] {-1, 1000, MIN, MAX}) {
            fails("stopLoop " + wrong, IAE, () -> x.stopLoop(wrong));
        }
        due("changes", x.undoable(), 6);
        BaggageLoop y = at(ROUND, 8);
        y.stopLoop(5);
        y.advance(5);
        due("no laps", y.lapsOf(0), 1);
        BaggageLoop z = at(ROUND.replace("900 1000", "8 20"), 5);
        z.stopLoop(4);
        due("loaded where it stands", z.advance(3), 1);
    }

    static void promise61() {
        BaggageLoop x = at(BASE, 6);
        due("reroute", x.reroute(0, 1), 0);
        due("to the same", x.reroute(0, 1), 1);
        due("changes", x.undoable(), 3);
        due("flight", x.flightOf(0), 1);
        due("ticksTo", x.ticksTo(0), 6);
        due("loaded in the other one", x.advance(6), 3);
        due("share", report(x), "1/1;2/2");
        fails("loaded", IAE, () -> x.reroute(0, 0));
        fails("rejected", IAE, () -> at(ALARMS, 4).reroute(0, 0));
        fails("short", IAE, () -> at(LATE, 5).reroute(0, 0));
        x.offload(0);
        fails("offloaded", IAE, () -> x.reroute(0, 0));
        fails("no flight", IOOBE, () -> x.reroute(0, 2));
        fails("no flight", IOOBE, () -> x.reroute(0, -1));
        list("reroute", loaded(BASE), (y, i) -> y.reroute(i, 0), 0, 0, 1);
        BaggageLoop z = at(BASE, 7);
        due("a stored bag", z.reroute(0, 1), 0);
        z.advance(1);
        due("leaves the lane at once", z.positionOf(0), 2);
    }

    static void promise62() {
        BaggageLoop x = loaded(BASE);
        fails("nothing to undo", ISE, () -> x.undo());
        x.advance(7);
        x.advance(4);
        x.setHot(9);
        due("undo", x.undo(), 2);
        due("undo", x.undo(), 1);
        due("time", x.time(), 7);
        due("map", map(x), "A...B.....");
        due("lane", x.laneSize(0), 1);
        due("events", x.events(), 1);
        due("timetable", timetable(x), "B0-30;A10-40,0x1");
        due("the same again", x.advance(4), 2);
        due("undo", x.undo(), 1);
        due("undo", x.undo(), 0);
        fails("nothing to undo", ISE, () -> x.undo());
        due("machines too", x.machineAt(1, 0), -1);
        // s is a part of the state: the draws of seed 1 are 838 and 758.
        BaggageLoop y = loaded(DRAWS.replace("ALARM", "800"));
        y.advance(2);
        due("838 is no alarm", y.stateOf(0), 8);
        y.undo();
        y.advance(2);
        due("838 again", y.stateOf(0), 8);
        for (int i = 0; i < 9; i++) {
            y.stopLoop(i);
        }
        for (int i = 5; i >= 0; i--) {
            due("undo", y.undo(), i);
        }
        due("the older ones stay", y.stoppedUntil(), 4);
        fails("no more", ISE, () -> y.undo());
        everyChange();
    }

    private static final String DRAWS = "loop 8 0 3 level 1 1 ALARM level 1 1 0 level 1 1 0 hot 0 seed 1"
            + ";flight 5 0 99;bags 0 2 0";

    private static void everyChange() {
        BaggageLoop x = at(BASE, 11);
        x.addBags(1, 1, 0);
        x.undo();
        due("addBags", x.bags(), 3);
        x.delay(0, 5);
        x.undo();
        due("delay", x.closeOf(0), 40);
        x.offload(0);
        x.undo();
        due("offload", x.stateOf(0) * 1000 + x.events(), 10004);
        x.block(0, true);
        x.undo();
        due("block", x.block(0, false), false);
        x.undo();
        x.setHot(7);
        x.undo();
        due("setHot", x.setHot(5), 5);
        x.undo();
        x.breakMachine(1, 0, 5);
        x.undo();
        due("breakMachine", x.brokenUntil(1, 0), 0);
        x.stopLoop(5);
        x.undo();
        due("stopLoop", x.stoppedUntil(), 0);
        x.reroute(1, 1);
        x.undo();
        due("reroute", x.flightOf(1), 0);
        due("undoable", x.undoable(), 1);
    }

    static void promise63() {
        BaggageLoop x = loaded(BASE);
        due("undoable", x.undoable(), 0);
        int[] want = {1, 2, 3, 4, 5, 6, 6, 6};
        for (int w : want) {
            x.advance(1);
            due("undoable", x.undoable(), w);
        }
        fails("a call that throws", IAE, () -> x.advance(0));
        x.save(0);
        due("undoable after save", x.undoable(), 6);
        x.undo();
        due("undoable after undo", x.undoable(), 5);
        x.restore(0);
        due("undoable after restore", x.undoable(), 0);
    }

    static void promise64() {
        BaggageLoop x = at(BASE, 7);
        due("save 0", x.save(0), 7);
        x.advance(4);
        due("save 1", x.save(1), 11);
        due("save is no change", x.undoable(), 2);
        x.advance(9);
        due("restore 0", x.restore(0), 7);
        due("restore 1", x.restore(1), 11);
        x.advance(1);
        due("save 0 again", x.save(0), 12);
        due("restore 0 again", x.restore(0), 12);
        for (int wrong : new int[] {-1, 2, MIN, MAX}) {
            fails("save " + wrong, IOOBE, () -> x.save(wrong));
            fails("save " + wrong + " without an airport", ISE, () -> new BaggageLoop().save(wrong));
        }
    }

    static void promise65() {
        BaggageLoop x = at(BASE, 7);
        for (int wrong : new int[] {-1, 2, MIN, MAX}) {
            fails("restore " + wrong, IOOBE, () -> x.restore(wrong));
            fails("restore " + wrong + " without an airport", IOOBE, () -> new BaggageLoop().restore(wrong));
        }
        fails("nothing saved", ISE, () -> x.restore(0));
        fails("nothing saved", ISE, () -> x.restore(1));
        fails("without an airport", ISE, () -> new BaggageLoop().restore(0));
        x.save(1);
        fails("nothing saved in 0", ISE, () -> x.restore(0));
        for (int round = 0; round < 3; round++) {
            due("advance", x.advance(4), 2);
            x.addBags(1, 5, 0);
            due("restore", x.restore(1), 7);
            due("undoable", x.undoable(), 0);
            fails("undo", ISE, () -> x.undo());
            due("time", x.time(), 7);
            due("bags", x.bags(), 3);
            due("map", map(x), "A...B.....");
            due("events", x.events(), 1);
        }
        x.save(0);
        x.advance(1);
        x.undo();
        due("undo leaves what is saved", x.restore(0), 7);
        savedEvents();
    }

    /** What happened after an undo does not reach the events that were saved before. */
    private static void savedEvents() {
        BaggageLoop x = at(BASE, 12);
        x.offload(2);
        x.save(0);
        x.undo();
        x.offload(0);
        due("another event", x.event(5, 2), 0);
        x.restore(0);
        due("the saved event", x.event(5, 2), 2);
        x.advance(7);
        x.undo();
        due("the saved event", x.event(5, 0), 12);
    }

    // ---- the steps of a tick, where no promise has them alone

    static void ticks() {
        draws();
        lanes();
        shifts();
    }

    private static void draws() {
        due("838 < 838", at(DRAWS.replace("ALARM", "838"), 2).stateOf(0), 8);
        due("838 < 839", at(DRAWS.replace("ALARM", "839"), 2).stateOf(0), 4);
        due("the second draw: 758 < 758", at(DRAWS.replace("ALARM", "758"), 3).stateOf(1), 8);
        due("the second draw: 758 < 759", at(DRAWS.replace("ALARM", "759"), 3).stateOf(1), 4);
        // Machines by numbers: bag 0 gets 838, bag 1 gets 758.
        BaggageLoop x = at(DRAWS.replace("level 1 1 ALARM", "level 2 1 800"), 2);
        due("machine 0", x.stateOf(0), 8);
        due("machine 1", x.stateOf(1), 4);
        // Level 2 draws before level 1: bag 0 gets 838 and 758, bag 1 gets 113.
        BaggageLoop y = at(DRAWS.replace("ALARM level 1 1 0", "900 level 1 1 500"), 3);
        due("level 2", y.stateOf(0), 8);
        due("level 1", y.stateOf(1), 4);
        due("an ALARM of 0", at(LATE, 2).stateOf(0), 8);
        // The draws that follow are 515, 51 and 627.
        String many = "loop 20 0 3 level 1 1 600 level 4 99 0 level 1 1 0 hot 0 seed 1;flight 5 900 999;bags 0 6 0";
        int[] alarms = {0, 0, 1, 1, 1, 0};
        for (int bag = 0; bag < alarms.length; bag++) {
            due("draw " + bag, at(many, 2 + bag).stateOf(bag), alarms[bag] == 1 ? 4 : 8);
        }
    }

    private static void lanes() {
        // Two bags stand at lanes (2 and 4) at time 6; when the first is stored, the other one is kept.
        String two = "loop 10 0 5 level 2 1 0 level 1 1 0 level 1 1 0 hot 0 seed 0;flight 7 50 60"
                + ";lane 4 5;lane 2 5;bags 0 1 0;bags 3 1 0;keep load<2";
        BaggageLoop x = at(two, 6);
        due("the smaller position", x.laneOf(1), 1);
        due("is kept then", x.stateOf(0), 8);
        // The lane is full with one bag; the other one goes on.
        BaggageLoop y = at(BASE.replace("lane 2 3", "lane 2 1"), 9);
        due("full", y.stateOf(1), 8);
        // A bag whose flight opens before that of the last one is not taken; one that opens later is.
        String order = "loop 10 0 5 level 1 1 0 level 1 1 0 level 1 1 0 hot 0 seed 0;flight 7 50 60;flight 8 49 60"
                + ";flight 9 51 60;lane 2 5;bags 0 1 0;bags 1 1 1;bags 2 1 2;bags 3 1 0";
        BaggageLoop z = at(order, 20);
        due("in order", z.laneSize(0), 2);
        due("the first one", z.laneAt(0, 0), 0);
        due("opens earlier", z.stateOf(1), 8);
        due("opens later", z.laneAt(0, 1), 2);
        due("opens earlier than the last one", z.stateOf(3), 8);
        // The position of the lane is not free while the loop stands.
        BaggageLoop w = at(BASE, 10);
        w.stopLoop(3);
        w.advance(3);
        due("no room", w.laneSize(0), 1);
        w.advance(1);
        due("room", w.positionOf(1), 2);
        // A bag of a closed flight leaves the lane, too.
        BaggageLoop v = at(BASE.replace("flight 3 10 40", "flight 3 10 11"), 10);
        v.advance(1);
        due("closed", v.positionOf(1), 2);
        due("bag 2 alone is loaded", v.advance(3), 1);
        due("short at PROBLEM", v.stateOf(1), 11);
    }

    private static void shifts() {
        // Off shift at the times 2 to 4: the bag is in the machine at 1 and is worked on at 5 alone.
        BaggageLoop x = at(LATE + ";shift 1 0 2 4", 4);
        due("off shift", x.machineAt(1, 0), 0);
        x.advance(1);
        due("on shift", x.stateOf(0), 8);
        BaggageLoop y = at(BASE.replace("level 1 2", "level 3 2") + ";shift 1 1 0 1", 1);
        due("machine 0 works", y.machineAt(1, 0), 2);
        due("machine 1 does not", y.machineAt(1, 1), -1);
        due("machine 2 does not", y.machineAt(1, 2), -1);
        y.advance(1);
        due("machine 1 works later", y.machineAt(1, 1), 0);
        due("machine 2 works later", y.machineAt(1, 2), 1);
        due("another level", at(ALARMS + ";shift 2 0 0 99", 1).stateOf(0), 2);
        due("two lines", at(LATE + ";shift 1 0 0 1;shift 1 0 2 3", 3).stateOf(0), 1);
        due("after two lines", at(LATE + ";shift 1 0 0 1;shift 1 0 2 3", 4).stateOf(0), 2);
    }

    // ---- no airport

    static void noAirport() {
        BaggageLoop x = new BaggageLoop();
        due("time", x.time(), 0);
        due("bags", x.bags(), 0);
        due("loopLoad", x.loopLoad(), 0);
        due("stoppedUntil", x.stoppedUntil(), 0);
        due("lanes", x.lanes(), 0);
        due("keeps", x.keeps(), 0);
        due("flights", x.flights(), 0);
        due("events", x.events(), 0);
        due("undoable", x.undoable(), 0);
        fails("waiting", ISE, () -> x.waiting(0));
        fails("queueAt", ISE, () -> x.queueAt(0, 0));
        fails("laneAt", ISE, () -> x.laneAt(-1, 0));
        fails("countOf", ISE, () -> x.countOf(-1, -1));
        fails("percentile", ISE, () -> x.percentile(-1, 0));
        fails("event", ISE, () -> x.event(-1, -1));
        fails("report", ISE, () -> x.report());
        fails("map", ISE, () -> x.map());
        fails("timetable", ISE, () -> x.timetable());
        fails("bestDelay", ISE, () -> x.bestDelay(-1, 0));
        fails("withoutLane", ISE, () -> x.withoutLane(-1, 0));
        fails("addBags", ISE, () -> x.addBags(0, 0, -1));
        fails("delay", ISE, () -> x.delay(-1, 0));
        fails("offload", ISE, () -> x.offload(-1));
        fails("block", ISE, () -> x.block(-1, true));
        fails("setHot", ISE, () -> x.setHot(-1));
        fails("stopLoop", ISE, () -> x.stopLoop(-1));
        fails("reroute", ISE, () -> x.reroute(-1, -1));
        due("still no changes", x.undoable(), 0);
        // A failed load leaves no airport.
        fails("load", IAE, () -> Check.load(x, BASE + ";"));
        fails("report", ISE, () -> x.report());
        due("bags", x.bags(), 0);
        due("flights", x.flights(), 0);
        due("lanes", x.lanes(), 0);
    }
}
