import java.util.ArrayList;
import java.util.List;
import java.util.function.Consumer;
import java.util.function.Supplier;

/** Section 7 and the promises 48 to 65, sentence by sentence: exceptions, questions, changes, undo, save and restore. */
public final class ChangeBoundaryTest {
    private static final Class<IllegalStateException> ISE = Check.ISE;
    private static final Class<IllegalArgumentException> IAE = Check.IAE;
    private static final Class<IndexOutOfBoundsException> IOOBE = Check.IOOBE;
    private static final int MIN = Calls.MIN;
    private static final int MAX = Calls.MAX;
    private static final String QUICK = Airports.QUICK;
    private static final String WIDE = Airports.WIDE;
    private static final String NO_FLIGHT = "Throws `IndexOutOfBoundsException` if there is no such flight";
    private static final String NO_LANE = "Throws `IndexOutOfBoundsException` if there is no such lane";
    private static final String NO_TICKS =
            "Throws `IllegalArgumentException` if n is out of range, or the time would be greater than 9999";

    private static final Supplier<BaggageLoop> RICH = Airports.RICH;
    private static final Supplier<BaggageLoop> SOME = Airports.SOME;
    private static final int RICH_BAGS = 11;
    /** A bag that is loaded at 5, one at 6, one at 7. */
    private static final String THREE = "loop 10 0 5" + WIDE + ";flight 3 0 99;lane 2 3;bags 1 3 0";
    /** A bag that is at PROBLEM at 7 and becomes short there, and so on at 8 and 9. */
    private static final String SHORT = "loop 10 0 5" + WIDE + ";flight 8 0 1;bags 1 3 0";

    private static final Spec spec = new Spec();
    private static final Calls calls = new Calls(spec);

    public static void main(String[] args) {
        exceptions();
        undoOfAll();
        latestSix();
        questions();
        loadedIn();
        shortIn();
        timeToClear();
        bestDelay();
        withoutLane();
        advance();
        addBags();
        delay();
        offload();
        block();
        setHot();
        breakMachine();
        stopLoop();
        reroute();
        undo();
        undoable();
        save();
        restore();
        List<String> sections = new ArrayList<>(List.of("7"));
        for (int i = 48; i <= 65; i++) {
            sections.add("Promise " + i);
        }
        spec.end(sections.toArray(new String[0]));
    }

    private static void promise(int number) {
        spec.of("Promise " + number);
    }

    private static void says(String words) {
        spec.says(words);
    }

    private static void due(String what, Object got, Object want) {
        spec.due(what, got, want);
    }

    private static BaggageLoop at(String text, int time) {
        return Airports.at(text, time);
    }

    // ---- 7. Exceptions, changes and undo

    private static void exceptions() {
        spec.of("7");
        says("If several exceptions apply, the one that is listed first at the method is thrown.");
        String[] names = {"stateOf", "bagAt", "waiting", "queueAt", "machineAt", "brokenUntil", "laneSize", "laneAt",
            "flightState", "countOf", "percentile", "worstFlight", "event", "loadedIn", "shortIn", "timeToClear", "bestDelay",
            "withoutLane", "advance", "addBags", "delay", "offload", "block", "setHot", "breakMachine", "stopLoop", "reroute",
            "save"};
        for (String name : names) {
            due(name + " lists the missing airport first", spec.document.exceptions(name).get(0), "IllegalStateException");
            calls.withoutAirport(name);
        }
        calls.arguments(RICH, "bestDelay", Calls.index(3), Calls.number(1, 200));
        calls.arguments(RICH, "withoutLane", Calls.index(2), Calls.number(1, 500));
        calls.arguments(RICH, "addBags", Calls.number(1, 999), Calls.number(1, 100 - RICH_BAGS), Calls.index(3));
        calls.arguments(RICH, "delay", Calls.index(3), Calls.number(1, 999));
        calls.arguments(EQUAL, "breakMachine", new Calls.Range(1, 3, IOOBE), Calls.index(4), Calls.number(1, 999));
        for (int wrong : new int[] {-1, 2, MIN, MAX}) {
            spec.refused("restore lists the slot first", IOOBE, Airports.EMPTY, x -> x.restore(wrong));
            spec.refused("restore lists the slot first", IOOBE, SOME, x -> x.restore(wrong));
        }
        // Bag 6 is loaded; flight 3 does not exist.
        spec.refused("reroute", IOOBE, RICH, x -> x.reroute(6, 3));
        spec.refused("reroute", IAE, RICH, x -> x.reroute(6, 2));
        spec.refused("offload", IOOBE, RICH, x -> x.offload(RICH_BAGS));
        BaggageLoop bad = new BaggageLoop();
        Check.fill(bad, "#");
        spec.fails("load lists the number first", IOOBE, () -> bad.load(21));
        spec.fails("load", IAE, () -> bad.load(20));

        says("A call that throws an exception changes nothing, except that load empties the input buffer and sets parseError() "
                + "and errorPosition().");
        spec.refused("advance", IAE, RICH, x -> x.advance(501));
        spec.refused("undo", ISE, Airports.FRESH, x -> x.undo());
        spec.refused("restore", ISE, SOME, x -> x.restore(0));
        for (int n : new int[] {0, 1, 40}) {
            BaggageLoop x = RICH.get();
            spec.fails("load " + n, IAE, () -> x.load(n));
            due("buffered", x.buffered(), 0);
            due("parseError", x.parseError(), 1);
            due("errorPosition", x.errorPosition(), n == 1 ? 0 : n);
            due("the rest", rest(Views.all(x)), rest(Views.expected(RICH, Views.PROBES.get(0))));
        }
    }

    private static final Supplier<BaggageLoop> EQUAL = () -> at("loop 10 0 5 level 4 1 500 level 4 2 500 level 4 3 500 hot 0"
            + " seed 9;flight 3 0 99;bags 0 20 0", 3);

    private static String rest(String view) {
        return view.replaceAll("(parseError|errorPosition|buffered)=-?\\d+ ", "");
    }

    /** A change of each kind, which an object of SOME or RICH allows. */
    private static final List<Consumer<BaggageLoop>> CHANGES = List.of(
            x -> x.advance(1), x -> x.advance(37), x -> x.addBags(1, 20, 2), x -> x.delay(0, 3), x -> x.delay(2, 400),
            x -> x.offload(6), x -> x.block(0, true), x -> x.block(1, false), x -> x.setHot(50),
            x -> x.breakMachine(3, 0, 40), x -> x.breakMachine(1, 0, 1), x -> x.stopLoop(3), x -> x.stopLoop(0),
            x -> x.reroute(3, 2), x -> x.reroute(5, 1));

    private static void undoOfAll() {
        says("The state consists of everything that ticks and changes alter, s included.");
        for (int i = 0; i < CHANGES.size(); i++) {
            Consumer<BaggageLoop> change = CHANGES.get(i);
            spec.unchanged("change " + i + " and undo", SOME, x -> {
                change.accept(x);
                x.undo();
            });
            spec.unchanged("change " + i + " between save and restore", SAVED, x -> {
                change.accept(x);
                x.restore(0);
            });
        }
        // Levels, laps and the times of the ends go back, too.
        for (int ticks : new int[] {1, 5, 20, 60}) {
            spec.unchanged("ticks and undo", Airports.BUSY, x -> {
                x.advance(ticks);
                x.undo();
            });
            BaggageLoop x = Airports.BUSY.get();
            String before = bags(x);
            x.save(0);
            x.advance(ticks);
            due("ticks change something", bags(x).equals(before), false);
            x.restore(0);
            due("restored", bags(x), before);
            BaggageLoop y = Airports.BUSY.get();
            y.timeToClear(ticks);
            due("a question leaves it", bags(y), before);
        }
        BaggageLoop off = at(THREE, 20);
        off.offload(1);
        due("finishedAt", off.finishedAt(1), 20);
        off.save(0);
        off.undo();
        due("finishedAt before", off.finishedAt(1), 6);
        off.offload(2);
        due("another event", off.event(3, 2), 2);
        off.restore(0);
        due("the saved event", off.event(3, 2), 1);
        due("finishedAt saved", off.finishedAt(1), 20);
        says("The methods that are documented as changes can be undone, the latest one first.");
        for (int start = 0; start < CHANGES.size(); start++) {
            BaggageLoop x = SOME.get();
            List<String> views = new ArrayList<>();
            for (int i = 0; i < 6; i++) {
                views.add(states(x));
                changeSomehow(x, CHANGES.get((start + 4 * i) % CHANGES.size()));
            }
            for (int i = 5; i >= 0; i--) {
                due("undo", x.undo(), i);
                due("the state before change " + i, states(x), views.get(i));
            }
        }
    }

    /** A change that the ones before have made impossible is replaced by one that is always possible. */
    private static void changeSomehow(BaggageLoop x, Consumer<BaggageLoop> change) {
        try {
            change.accept(x);
        } catch (IllegalArgumentException e) {
            x.stopLoop(77);
        }
    }

    private static final Supplier<BaggageLoop> SAVED = () -> {
        BaggageLoop x = SOME.get();
        x.save(0);
        x.restore(0);
        return x;
    };

    private static String bags(BaggageLoop x) {
        StringBuilder text = new StringBuilder();
        for (int bag = 0; bag < x.bags(); bag++) {
            text.append(x.stateOf(bag)).append('/').append(x.lapsOf(bag)).append('/').append(x.levelOf(bag)).append('/')
                    .append(x.finishedAt(bag)).append(' ');
        }
        return text.toString();
    }

    private static String states(BaggageLoop x) {
        StringBuilder text = new StringBuilder();
        for (int bag = 0; bag < x.bags(); bag++) {
            text.append(x.stateOf(bag)).append(' ').append(x.flightOf(bag)).append(' ');
        }
        for (int flight = 0; flight < x.flights(); flight++) {
            text.append(x.openOf(flight)).append(' ').append(x.closeOf(flight)).append(' ');
        }
        return text.append(x.time()).append(' ').append(x.stoppedUntil()).append(' ').append(x.brokenUntil(3, 0)).append(' ')
                .append(x.brokenUntil(1, 0)).append(' ').append(x.events()).append(' ').append(x.isHot(0)).append(' ')
                .append(x.loadedIn(60)).append(' ').append(x.timeToClear(200)).toString();
    }

    private static void latestSix() {
        says("Only the latest 6 changes since the last successful call of load or restore are kept for this.");
        for (int changes = 0; changes <= 14; changes++) {
            BaggageLoop x = Check.loaded(Airports.RICH_TEXT);
            for (int i = 1; i <= changes; i++) {
                x.stopLoop(i);
                due("undoable", x.undoable(), Math.min(i, 6));
            }
            int left = Math.min(changes, 6);
            for (int i = left - 1; i >= 0; i--) {
                due("undo", x.undo(), i);
                due("what is undone", x.stoppedUntil(), changes - left + i);
            }
            spec.fails("no more", ISE, () -> x.undo());
        }
        // Undo and change by turns, round the ring and round again.
        BaggageLoop ring = Check.loaded(Airports.RICH_TEXT);
        for (int i = 1; i <= 40; i++) {
            ring.stopLoop(i);
            ring.stopLoop(500 + i);
            due("undo", ring.undo(), Math.min(i, 5));
            due("what is left", ring.stoppedUntil(), i);
        }
        for (int i = 39; i >= 35; i--) {
            ring.undo();
            due("older ones", ring.stoppedUntil(), i);
        }
        spec.fails("no more", ISE, () -> ring.undo());
        BaggageLoop x = RICH.get();
        due("a failed load leaves them", x.undoable(), 6);
        spec.fails("a failed restore", IOOBE, () -> x.restore(2));
        due("leaves them", x.undoable(), 6);
        x.restore(1);
        due("restore", x.undoable(), 0);
        x.stopLoop(1);
        due("since restore", x.undoable(), 1);
        Check.load(x, Airports.NEXT_TEXT);
        due("load", x.undoable(), 0);
        x.stopLoop(1);
        due("since load", x.undoable(), 1);
    }

    private static void questions() {
        says("A what-if question simulates a copy of the state; it changes nothing.");
        for (Supplier<BaggageLoop> maker : List.of(Airports.FRESH, SOME, RICH, Airports.BUSY)) {
            for (int n : new int[] {1, 30, 500}) {
                spec.unchanged("loadedIn " + n, maker, x -> x.loadedIn(n));
                spec.unchanged("shortIn " + n, maker, x -> x.shortIn(n));
                spec.unchanged("timeToClear " + n, maker, x -> x.timeToClear(n));
                spec.unchanged("withoutLane " + n, maker, x -> x.withoutLane(0, n));
                spec.unchanged("withoutLane " + n, maker, x -> x.withoutLane(x.lanes() - 1, n));
            }
            spec.unchanged("bestDelay 1", maker, x -> x.bestDelay(1, 1));
            spec.unchanged("bestDelay 200", maker, x -> x.bestDelay(0, 200));
        }
        says("- `NONE = -1`: The value for \"none\", -1.");
        due("NONE", BaggageLoop.NONE, -1);
    }

    // ---- what-if questions

    /** The numbers of ticks that are allowed, 1 to the greatest one, and the greatest time, 9999. */
    private static void ticks(String name, int most, Object... before) {
        for (int n : new int[] {1, most}) {
            spec.fails(name + " " + n, null, () -> Calls.call(RICH.get(), name, with(before, n)));
        }
        for (int n : new int[] {0, most + 1, -1, MIN, MAX}) {
            spec.refused(name + " " + n, IAE, RICH, x -> Calls.call(x, name, with(before, n)));
        }
        int[][] timesAndTicks = {{9999, 0}, {9998, 1}, {9999 - most, most}, {10000 - most, most - 1}, {9990, 9}};
        for (int[] t : timesAndTicks) {
            Supplier<BaggageLoop> late = () -> Airports.late(t[0]);
            if (t[1] > 0) {
                spec.fails(name + " " + t[1] + " at " + t[0], null, () -> Calls.call(late.get(), name, with(before, t[1])));
            }
            if (t[1] < most) {
                spec.refused(name + " " + (t[1] + 1) + " at " + t[0], IAE, late,
                        x -> Calls.call(x, name, with(before, t[1] + 1)));
            }
            spec.refused(name + " MAX at " + t[0], IAE, late, x -> Calls.call(x, name, with(before, MAX)));
        }
    }

    private static Object[] with(Object[] before, int n) {
        Object[] all = new Object[before.length + 1];
        System.arraycopy(before, 0, all, 0, before.length);
        all[before.length] = n;
        return all;
    }

    private static void loadedIn() {
        promise(48);
        says("Returns how many bags would be loaded in the next n ticks.");
        int[][] want = {{1, 0}, {4, 0}, {5, 1}, {6, 2}, {7, 3}, {8, 3}, {500, 3}};
        for (int[] w : want) {
            due("loadedIn " + w[0], Check.loaded(THREE).loadedIn(w[0]), w[1]);
        }
        due("later", at(THREE, 5).loadedIn(1), 1);
        due("those before do not count", at(THREE, 7).loadedIn(500), 0);
        says("- `n`: 1 to 500");
        ticks("loadedIn", 500);
        says("Returns the number of bags.");
        due("none", Check.loaded(SHORT).loadedIn(500), 0);
        due("100", Check.loaded("loop 10 0 5" + WIDE + ";flight 3 0 999;bags 1 100 0").loadedIn(500), 100);
        due("the last tick of all", lastTick(), 1);
        calls.needsAirport("loadedIn");
        says(NO_TICKS);
        spec.refused("501", IAE, SOME, x -> x.loadedIn(501));
        spec.refused("2 at 9998", IAE, LATE_9998, x -> x.loadedIn(2));
    }

    private static final Supplier<BaggageLoop> LATE_9998 = () -> Airports.late(9998);

    /** A bag that is loaded at 9999: it is at ENTRY (2) at 9992, and at its flight (0 of 9 positions) seven moves later. */
    private static int lastTick() {
        BaggageLoop x = Airports.late(9990);
        x.addBags(1, 1, 0);
        due("not before", x.loadedIn(8), 0);
        return x.loadedIn(9);
    }

    private static void shortIn() {
        promise(49);
        says("Returns how many bags would become short in the next n ticks.");
        int[][] want = {{1, 0}, {6, 0}, {7, 1}, {8, 2}, {9, 3}, {10, 3}, {500, 3}};
        for (int[] w : want) {
            due("shortIn " + w[0], Check.loaded(SHORT).shortIn(w[0]), w[1]);
        }
        due("later", at(SHORT, 7).shortIn(1), 1);
        due("those before do not count", at(SHORT, 9).shortIn(500), 0);
        says("- `n`: 1 to 500");
        ticks("shortIn", 500);
        says("Returns the number of bags.");
        due("none", Check.loaded(THREE).shortIn(500), 0);
        due("100", Check.loaded(SHORT.replace("bags 1 3", "bags 1 100")).shortIn(500), 100);
        calls.needsAirport("shortIn");
        says(NO_TICKS);
        spec.refused("501", IAE, SOME, x -> x.shortIn(501));
        spec.refused("2 at 9998", IAE, LATE_9998, x -> x.shortIn(2));
    }

    private static void timeToClear() {
        promise(50);
        says("Returns after how many more ticks all bags would be in the states 10 to 13.");
        for (int time = 0; time < 7; time++) {
            due("loaded at 7, asked at " + time, at(THREE, time).timeToClear(50), 7 - time);
        }
        due("short", Check.loaded(SHORT).timeToClear(50), 9);
        due("rejected", Check.loaded("loop 10 0 5 level 1 1 1000 level 1 1 1000 level 1 1 1000 hot 0 seed 0;flight 3 0 9"
                + ";bags 1 1 0").timeToClear(50), 4);
        for (int state = 0; state < 14; state++) {
            due("state " + state, Airports.inState(state).timeToClear(1) == 0, state >= 10);
        }
        says("- `n`: the greatest number of ticks to simulate, 1 to 500");
        ticks("timeToClear", 500);
        says("Returns the number of ticks, 0 if it is so now; NONE if it does not happen in these ticks.");
        due("in exactly n", Check.loaded(THREE).timeToClear(7), 7);
        due("one too few", Check.loaded(THREE).timeToClear(6), -1);
        due("one tick", at(THREE, 6).timeToClear(1), 1);
        due("now", at(THREE, 7).timeToClear(1), 0);
        due("no bags", Check.loaded("loop 4 0 1" + QUICK + ";flight 2 0 9").timeToClear(1), 0);
        BaggageLoop more = at(THREE, 7);
        more.addBags(495, 1, 0);
        due("a bag to come", more.timeToClear(494), -1);
        BaggageLoop far = at(THREE.replace("0 99;", "0 1999;"), 7);
        far.addBags(496, 1, 0);
        due("500 ticks", far.timeToClear(500), 500);
        far.undo();
        far.addBags(497, 1, 0);
        due("501 ticks", far.timeToClear(500), -1);
        calls.needsAirport("timeToClear");
        says(NO_TICKS);
        spec.refused("501", IAE, SOME, x -> x.timeToClear(501));
        spec.refused("2 at 9998", IAE, LATE_9998, x -> x.timeToClear(2));
        due("clear at 9998", LATE_9998.get().timeToClear(1), 0);
        spec.fails("clear at 9999, but no tick is left", IAE, () -> Airports.late(9999).timeToClear(1));
    }

    private static void bestDelay() {
        promise(51);
        says("Finds the delay of a flight of 0, 5, 10 and so on to 50 (see delay) with which the fewest bags, of all flights, "
                + "become short in the next n ticks.");
        // With T ticks in the machine the bag is at its flight at T + 4; the flight must close later than that.
        for (int by = 0; by <= 55; by += 5) {
            // CLOSE is 1 + by, so that T + 4 may be by.
            String fits = slow(by - 4);
            String late = slow(by - 3);
            if (by >= 5) {
                due("just in time with " + by, Check.loaded(fits).bestDelay(0, 200), by <= 50 ? by : 0);
                due("a tick too late with " + by, Check.loaded(late).bestDelay(0, 200), by + 5 <= 50 ? by + 5 : 0);
            }
        }
        due("nothing is short", Check.loaded(THREE).bestDelay(0, 200), 0);
        due("nothing helps", Check.loaded(SHORT.replace("bags 1 3", "bags 60 3")).bestDelay(0, 200), 0);
        otherFlights();
        hundredShort();
        says("- `flight`: number of the flight");
        calls.arguments(RICH, "bestDelay", Calls.index(3), Calls.number(1, 200));
        says("- `n`: 1 to 200");
        ticks("bestDelay", 200, 0);
        says("Returns the delay, of several the smallest one.");
        BaggageLoop x = Check.loaded(slow(1));
        // At its flight at 5, at PROBLEM at 7: short with no delay at 7; loaded with a delay of 5 or more.
        due("no bag is short in 6 ticks", x.bestDelay(0, 6), 0);
        due("one is in 7", x.bestDelay(0, 7), 5);
        due("5 to 50 are equal", x.bestDelay(0, 200), 5);
        calls.needsAirport("bestDelay");
        says(NO_FLIGHT);
        for (int wrong : new int[] {-1, 1, MIN, MAX}) {
            spec.refused("flight " + wrong, IOOBE, () -> Check.loaded(THREE), y -> y.bestDelay(wrong, 0));
        }
        says("Throws `IllegalArgumentException` if n is out of range, the time would be greater than 9999, or the flight is "
                + "closed");
        spec.refused("201", IAE, SOME, y -> y.bestDelay(0, 201));
        spec.refused("2 at 9998", IAE, LATE_9998, y -> y.bestDelay(0, 2));
        spec.fails("the tick before CLOSE", null, () -> at(Airports.RICH_TEXT, 30).bestDelay(1, 1));
        spec.refused("at CLOSE", IAE, () -> at(Airports.RICH_TEXT, 31), y -> y.bestDelay(1, 1));
        spec.refused("after CLOSE", IAE, () -> at(Airports.RICH_TEXT, 99), y -> y.bestDelay(1, 1));
    }

    /** A bag that is T ticks in the machine, and a flight at 3 that closes at 1. */
    private static String slow(int ticks) {
        return "loop 10 0 5 level 1 " + ticks + " 0 level 1 1 0 level 1 1 0 hot 0 seed 0;flight 3 0 1;bags 1 1 0";
    }

    /** All of 100 bags are short without a delay, and one less for each tick of a delay beyond 4. */
    private static void hundredShort() {
        // Bag k is at its flight at 5 + k, which closes at 1 + the delay: with 5 bag 0 is loaded, with 50 the bags 0 to 45.
        String text = "loop 10 0 5" + WIDE + ";flight 3 0 1;bags 1 100 0";
        due("all are short", Check.loaded(text).shortIn(200), 100);
        BaggageLoop x = Check.loaded(text);
        x.delay(0, 5);
        due("99 are short with 5", x.shortIn(200), 99);
        due("50 is the best", Check.loaded(text).bestDelay(0, 200), 50);
        // Bag 0 alone has this flight and is at it at 5; the others come later and are short whatever its delay is.
        String one = "loop 10 0 5" + WIDE + ";flight 3 0 1;flight 4 0 1;bags 1 1 0;bags 20 99 1";
        due("all are short", Check.loaded(one).shortIn(200), 100);
        due("99 in place of 100", Check.loaded(one).bestDelay(0, 200), 5);
    }

    /** With a delay of flight 0 its bag does not go first any more: the bag of flight 1 is then in time. */
    private static void otherFlights() {
        // One machine of 5 ticks: the first bag is at its flight (3) at 9, the second at 14. Flight 1 closes at 12.
        String text = "loop 10 0 5 level 1 5 0 level 1 1 0 level 1 1 0 hot 0 seed 0;flight 3 0 11;flight 4 0 12;bags 1 1 0"
                + ";bags 1 1 1";
        BaggageLoop x = Check.loaded(text);
        due("without a delay", x.shortIn(200), 1);
        BaggageLoop delayed = Check.loaded(text);
        delayed.delay(0, 5);
        due("with a delay of 5", delayed.shortIn(200), 0);
        due("of all flights", x.bestDelay(0, 200), 5);
        due("of the other flight", x.bestDelay(1, 200), 5);
    }

    private static void withoutLane() {
        promise(52);
        // Bag 0 is at the lanes (2 and 4) at 4 and 6, and at its flight (1) at 13 if none of them stores it.
        String text = "loop 10 0 5" + QUICK + ";flight 1 13 999;lane 2 3;lane 4 3;bags 1 1 0";
        says("Returns how many bags would be loaded in the next n ticks if a lane were blocked now.");
        // Lane 0 lets it go at 13, nine moves before its flight; lane 1 does so seven moves before it.
        BaggageLoop x = Check.loaded(text);
        due("without lane 0", List.of(x.withoutLane(0, 19), x.withoutLane(0, 20)), List.of(0, 1));
        due("without lane 1", List.of(x.withoutLane(1, 21), x.withoutLane(1, 22)), List.of(0, 1));
        due("with both", List.of(x.loadedIn(21), x.loadedIn(22)), List.of(0, 1));
        BaggageLoop y = Check.loaded(text);
        y.block(1, true);
        due("without lane 0 too", List.of(y.withoutLane(0, 12), y.withoutLane(0, 13)), List.of(0, 1));
        due("blocked already", y.withoutLane(1, 22), 1);
        due("those in it leave", at(text, 12).withoutLane(0, 10), 1);
        due("not blocked after it", x.block(0, false) || x.block(1, false), false);
        says("- `lane`: number of the lane");
        calls.arguments(RICH, "withoutLane", Calls.index(2), Calls.number(1, 500));
        says("- `n`: 1 to 500");
        ticks("withoutLane", 500, 0);
        says("Returns the number of bags.");
        due("none", Check.loaded(text).withoutLane(0, 1), 0);
        due("100", Check.loaded(THREE.replace("bags 1 3", "bags 1 100").replace("0 99", "0 999")).withoutLane(0, 500), 100);
        calls.needsAirport("withoutLane");
        says(NO_LANE);
        spec.refused("no lanes", IOOBE, () -> Check.loaded(SHORT), z -> z.withoutLane(0, 0));
        says(NO_TICKS);
        spec.refused("501", IAE, SOME, z -> z.withoutLane(0, 501));
        spec.refused("2 at 9998", IAE, LATE_9998, z -> z.withoutLane(0, 2));
    }

    // ---- changes

    /** A change can be undone, and nothing is left of it. */
    private static void isChange(String what, Supplier<BaggageLoop> maker, Consumer<BaggageLoop> change) {
        BaggageLoop x = maker.get();
        int before = x.undoable();
        change.accept(x);
        due(what + " is one change", x.undoable(), Math.min(before + 1, 6));
        due(what + " is undone", x.undo(), Math.min(before, 5));
        if (before < 6) {
            spec.unchanged(what + " and undo", maker, y -> {
                change.accept(y);
                y.undo();
            });
        }
    }

    private static void advance() {
        promise(53);
        says("Simulates n ticks.");
        for (int n : new int[] {1, 2, 6, 7, 499, 500}) {
            BaggageLoop x = Check.loaded(THREE);
            x.advance(n);
            due("the time", x.time(), n);
            BaggageLoop one = Check.loaded(THREE);
            for (int i = 0; i < Math.min(n, 7); i++) {
                one.advance(1);
            }
            due("like ticks alone", x.countOf(0, 10), one.countOf(0, 10));
        }
        says("This is one change.");
        isChange("advance 1", SOME, x -> x.advance(1));
        isChange("advance 500", SOME, x -> x.advance(500));
        isChange("advance 500", RICH, x -> x.advance(500));
        says("- `n`: 1 to 500");
        ticks("advance", 500);
        says("Returns how many bags were loaded in them.");
        int[][] want = {{1, 0}, {4, 0}, {5, 1}, {6, 2}, {7, 3}, {500, 3}};
        for (int[] w : want) {
            due("advance " + w[0], Check.loaded(THREE).advance(w[0]), w[1]);
        }
        due("those before do not count", at(THREE, 6).advance(500), 1);
        due("100", Check.loaded("loop 10 0 5" + WIDE + ";flight 3 0 999;bags 1 100 0").advance(500), 100);
        due("short ones do not count", Check.loaded(SHORT).advance(500), 0);
        BaggageLoop off = at(THREE, 5);
        off.offload(0);
        due("an offloaded one does not matter", off.advance(1), 1);
        calls.needsAirport("advance");
        says(NO_TICKS);
        spec.refused("501", IAE, SOME, x -> x.advance(501));
        spec.refused("2 at 9998", IAE, LATE_9998, x -> x.advance(2));
        BaggageLoop last = LATE_9998.get();
        last.advance(1);
        due("the last tick", last.time(), 9999);
        spec.fails("no more", IAE, () -> last.advance(1));
        last.undo();
        due("undone", last.time(), 9998);
    }

    private static void addBags() {
        promise(54);
        says("Adds bags that arrive together, with the next numbers.");
        BaggageLoop x = SOME.get();
        due("the first", x.addBags(7, 3, 1), 7);
        due("the next", x.addBags(1, 1, 2), 10);
        int[][] want = {{20, 1}, {20, 1}, {20, 1}, {14, 2}};
        for (int i = 0; i < 4; i++) {
            due("arrival", x.arrivalOf(7 + i), want[i][0]);
            due("flight", x.flightOf(7 + i), want[i][1]);
            due("state", x.stateOf(7 + i), 0);
        }
        due("bags", x.bags(), 11);
        says("This is a change.");
        isChange("addBags", SOME, y -> y.addBags(1, 93, 0));
        isChange("addBags", RICH, y -> y.addBags(1, 1, 0));
        says("- `delay`: 1 to 999; they arrive at the time now plus delay");
        for (int delay : new int[] {1, 2, 999}) {
            BaggageLoop y = Check.loaded(THREE + ";shift 1 0 0 1999");
            y.advance(3);
            y.addBags(delay, 1, 0);
            due("arrivalOf", y.arrivalOf(3), 3 + delay);
            Airports.advance(y, delay - 1);
            due("before", y.stateOf(3), 0);
            y.advance(1);
            due("then", y.stateOf(3), 1);
        }
        says("- `count`: 1 to 100 minus the number of bags");
        for (int bags : new int[] {1, 50, 98, 99}) {
            Supplier<BaggageLoop> maker = () -> Check.loaded("loop 4 0 1" + QUICK + ";flight 2 0 9;bags 0 " + bags + " 0");
            calls.arguments(maker, "addBags", Calls.number(1, 999), Calls.number(1, 100 - bags), Calls.index(1));
            due("the rest", maker.get().addBags(1, 100 - bags, 0), bags);
        }
        due("100 at once", Check.loaded("loop 4 0 1" + QUICK + ";flight 2 0 9").addBags(1, 100, 0), 0);
        for (int count : new int[] {1, 0, -1, 100, MIN, MAX}) {
            spec.refused("no room for " + count, IAE, FULL, y -> y.addBags(1, count, 0));
        }
        says("- `flight`: number of the flight");
        calls.arguments(SOME, "addBags", Calls.number(1, 999), Calls.number(1, 93), Calls.index(3));
        says("Returns the number of the first one.");
        due("0", Check.loaded("loop 4 0 1" + QUICK + ";flight 2 0 9").addBags(1, 1, 0), 0);
        due("99", Check.loaded("loop 4 0 1" + QUICK + ";flight 2 0 9;bags 0 99 0").addBags(1, 1, 0), 99);
        BaggageLoop again = SOME.get();
        again.addBags(1, 5, 0);
        again.undo();
        due("the same number after undo", again.addBags(1, 5, 0), 7);
        calls.needsAirport("addBags");
        says(NO_FLIGHT);
        for (int wrong : new int[] {-1, 3, MIN, MAX}) {
            spec.refused("flight " + wrong, IOOBE, SOME, y -> y.addBags(1, 1, wrong));
            spec.refused("flight " + wrong + " of a full airport", IOOBE, FULL, y -> y.addBags(0, 0, wrong));
        }
        says("Throws `IllegalArgumentException` if delay or count is out of range");
        for (int wrong : new int[] {0, 1000, -1, MIN, MAX}) {
            spec.refused("delay " + wrong, IAE, SOME, y -> y.addBags(wrong, 1, 0));
        }
        for (int wrong : new int[] {0, 94, 100, -1, MIN, MAX}) {
            spec.refused("count " + wrong, IAE, SOME, y -> y.addBags(1, wrong, 0));
        }
    }

    private static final Supplier<BaggageLoop> FULL = () -> Check.loaded("loop 4 0 1" + QUICK + ";flight 2 0 9;bags 0 100 0");

    private static void delay() {
        promise(55);
        says("Delays a flight: CLOSE grows by a number, and OPEN, too, if the flight is not open yet.");
        // Flight 0 opens at 22 and closes at 60.
        int[][] want = {{0, 27, 65}, {21, 27, 65}, {22, 22, 65}, {59, 22, 65}};
        for (int[] w : want) {
            BaggageLoop x = at(Airports.RICH_TEXT, w[0]);
            x.delay(0, 5);
            due("OPEN at " + w[0], x.openOf(0), w[1]);
            due("CLOSE at " + w[0], x.closeOf(0), w[2]);
            due("another flight", x.openOf(1) * 100 + x.closeOf(1), 3031);
        }
        BaggageLoop first = Check.loaded("loop 4 0 1" + QUICK + ";flight 2 0 9;flight 3 1 9");
        first.delay(0, 5);
        first.delay(1, 5);
        due("open at the time 0", first.openOf(0), 0);
        due("not open at the time 0", first.openOf(1), 6);
        says("This is a change.");
        isChange("delay", SOME, x -> x.delay(0, 1));
        isChange("delay", SOME, x -> x.delay(2, 999));
        isChange("delay", RICH, x -> x.delay(2, 999));
        says("- `flight`: number of the flight");
        calls.arguments(RICH, "delay", Calls.index(3), Calls.number(1, 999));
        says("- `by`: 1 to 999");
        for (int by : new int[] {1, 999}) {
            due("by " + by, SOME.get().delay(2, by), 40 + by);
        }
        says("Returns CLOSE afterwards.");
        due("CLOSE", SOME.get().delay(0, 7), 67);
        BaggageLoop far = Check.loaded(THREE);
        for (int i = 1; i <= 500; i++) {
            due("beyond all bounds", far.delay(0, 999), 99 + 999 * i);
        }
        calls.needsAirport("delay");
        says(NO_FLIGHT);
        for (int wrong : new int[] {-1, 3, MIN, MAX}) {
            spec.refused("flight " + wrong, IOOBE, SOME, x -> x.delay(wrong, 0));
        }
        says("Throws `IllegalArgumentException` if by is out of range, or the flight is closed");
        for (int wrong : new int[] {0, 1000, -1, MIN, MAX}) {
            spec.refused("by " + wrong, IAE, SOME, x -> x.delay(0, wrong));
        }
        due("the tick before CLOSE", at(Airports.RICH_TEXT, 30).delay(1, 1), 32);
        spec.refused("at CLOSE", IAE, CLOSED, x -> x.delay(1, 1));
        spec.refused("at CLOSE", IAE, CLOSED, x -> x.delay(1, 999));
        spec.refused("after CLOSE", IAE, () -> at(Airports.RICH_TEXT, 500), x -> x.delay(1, 1));
        due("another flight", CLOSED.get().delay(2, 1), 41);
    }

    private static final Supplier<BaggageLoop> CLOSED = () -> at(Airports.RICH_TEXT, 31);

    private static void offload() {
        promise(56);
        says("Takes a loaded bag out of its flight: its state becomes 13.");
        BaggageLoop x = at(THREE, 6);
        x.offload(1);
        due("state", x.stateOf(1), 13);
        due("the others", x.stateOf(0) * 10 + x.stateOf(2), 108);
        due("flight", x.flightOf(1), 0);
        due("finishedAt", x.finishedAt(1), 6);
        due("an event", x.event(x.events() - 1, 1), 13);
        says("This is a change.");
        isChange("offload", SOME, y -> y.offload(6));
        isChange("offload", RICH, y -> y.offload(6));
        says("- `bag`: number of the bag");
        for (int wrong : new int[] {-1, RICH_BAGS, MIN, MAX}) {
            spec.refused("bag " + wrong, IOOBE, RICH, y -> y.offload(wrong));
        }
        due("bag 99", at("loop 10 0 5" + WIDE + ";flight 3 0 999;bags 1 100 0", 200).offload(99), 99);
        says("Returns the number of loaded bags of the flight that are left.");
        BaggageLoop all = at(THREE, 7);
        for (int bag = 0; bag < 3; bag++) {
            due("offload " + bag, all.offload(bag), 2 - bag);
        }
        BaggageLoop two = at("loop 10 0 5" + WIDE + ";flight 3 0 99;flight 4 0 98;bags 1 2 0;bags 1 3 1", 30);
        due("of the flight alone", two.offload(0), 1);
        due("of the other one", two.offload(4), 2);
        calls.needsAirport("offload");
        says("Throws `IndexOutOfBoundsException` if there is no such bag");
        spec.refused("no bags", IOOBE, () -> Check.loaded("loop 4 0 1" + QUICK + ";flight 2 0 9"), y -> y.offload(0));
        spec.refused("bag 100", IOOBE, FULL, y -> y.offload(100));
        says("Throws `IllegalArgumentException` if the bag is not loaded");
        for (int state = 0; state < 14; state++) {
            int s = state;
            if (state == 10) {
                due("loaded", Airports.inState(10).offload(0), 0);
            } else {
                spec.refused("state " + state, IAE, () -> Airports.inState(s), y -> y.offload(0));
            }
        }
    }

    private static void block() {
        promise(57);
        // A bag is at the lane at 4, the next ones at 5 and 6; the flight opens at 30.
        String text = "loop 10 0 5" + WIDE + ";flight 7 30 99;lane 2 3;lane 8 3;bags 1 3 0";
        says("Blocks a lane, or ends this.");
        BaggageLoop x = at(text, 3);
        x.block(0, true);
        x.advance(1);
        due("blocked", x.stateOf(0), 8);
        x.block(0, false);
        x.advance(1);
        due("not any more", x.stateOf(1), 9);
        says("A blocked lane takes no bags; those in it leave as usual.");
        BaggageLoop y = at(text, 4);
        due("one is in it", y.laneSize(0), 1);
        y.block(0, true);
        y.advance(20);
        due("no more", y.laneSize(0), 1);
        due("the other lane takes them", y.laneSize(1), 2);
        y.advance(5);
        due("before OPEN", y.stateOf(0), 9);
        y.advance(1);
        due("it leaves", y.positionOf(0), 2);
        says("This is a change, even if it is so already.");
        isChange("block", SOME, z -> z.block(0, true));
        isChange("block", SOME, z -> z.block(0, false));
        isChange("block", RICH, z -> z.block(1, true));
        says("- `lane`: number of the lane");
        for (boolean blocked : new boolean[] {true, false}) {
            for (int wrong : new int[] {-1, 2, MIN, MAX}) {
                spec.refused("lane " + wrong, IOOBE, RICH, z -> z.block(wrong, blocked));
            }
            due("the last lane", RICH.get().block(1, blocked), true);
        }
        says("- `blocked`: true if it is blocked from now on");
        for (boolean blocked : new boolean[] {true, false}) {
            BaggageLoop z = at(text, 3);
            z.block(0, blocked);
            z.advance(1);
            due("blocked " + blocked, z.stateOf(0), blocked ? 8 : 9);
        }
        says("Returns whether it was blocked before.");
        BaggageLoop z = Check.loaded(text);
        due("at first", z.block(0, true), false);
        due("blocked", z.block(0, true), true);
        due("the other lane", z.block(1, false), false);
        due("still blocked", z.block(0, false), true);
        due("not blocked", z.block(0, false), false);
        calls.needsAirport("block");
        says(NO_LANE);
        spec.refused("no lanes", IOOBE, () -> Check.loaded(SHORT), w -> w.block(0, true));
    }

    private static void setHot() {
        promise(58);
        says("Sets HOT.");
        BaggageLoop x = SOME.get();
        x.setHot(47);
        due("60 - 13 is 47", x.isHot(0), true);
        x.setHot(46);
        due("more than 46", x.isHot(0), false);
        says("This is a change.");
        isChange("setHot", SOME, y -> y.setHot(10));
        isChange("setHot to the same", SOME, y -> y.setHot(9));
        isChange("setHot", RICH, y -> y.setHot(0));
        says("- `hot`: 0 to 999");
        calls.arguments(RICH, "setHot", Calls.number(0, 999));
        says("Returns the previous HOT.");
        BaggageLoop y = Check.loaded(Airports.RICH_TEXT);
        due("of the text", y.setHot(0), 7);
        due("0", y.setHot(999), 0);
        due("999", y.setHot(1), 999);
        y.undo();
        due("undone", y.setHot(5), 999);
        calls.needsAirport("setHot");
        says("Throws `IllegalArgumentException` if hot is out of range");
        for (int wrong : new int[] {-1, 1000, MIN, MAX}) {
            spec.refused("hot " + wrong, IAE, SOME, z -> z.setHot(wrong));
        }
    }

    private static void breakMachine() {
        promise(59);
        says("Lets a machine be broken in the next n ticks; if it is broken for longer already, that stays.");
        for (int n : new int[] {1, 2, 10}) {
            BaggageLoop x = Check.loaded(THREE);
            x.breakMachine(1, 0, n);
            x.breakMachine(1, 1, n);
            x.breakMachine(1, 2, n);
            x.breakMachine(1, 3, n);
            x.advance(n);
            due("broken for " + n, x.levelOf(0), 0);
            x.advance(1);
            due("after " + n, x.levelOf(0), 1);
        }
        BaggageLoop longer = at(Airports.RICH_TEXT, 5);
        longer.breakMachine(1, 0, 10);
        for (int n : new int[] {1, 9, 10}) {
            longer.breakMachine(1, 0, n);
            due("that stays", longer.brokenUntil(1, 0), 15);
        }
        longer.breakMachine(1, 0, 11);
        due("longer", longer.brokenUntil(1, 0), 16);
        says("This is a change.");
        isChange("breakMachine", SOME, x -> x.breakMachine(1, 0, 1));
        isChange("breakMachine", RICH, x -> x.breakMachine(1, 0, 999));
        isChange("breakMachine that changes nothing", BROKEN, x -> x.breakMachine(2, 0, 5));
        says("- `level`: 1 to 3");
        int[] machines = {0, 2, 1, 3};
        for (int level = 0; level <= 4; level++) {
            int k = level;
            if (level >= 1 && level <= 3) {
                due("level " + level, RICH.get().breakMachine(level, 0, 500), true);
            } else {
                spec.refused("level " + level, IOOBE, RICH, x -> x.breakMachine(k, 0, 500));
            }
        }
        says("- `machine`: from 0");
        for (int level = 1; level <= 3; level++) {
            int k = level;
            due("the first of level " + level, RICH.get().breakMachine(level, 0, 500), true);
            due("the last of level " + level, RICH.get().breakMachine(level, machines[level] - 1, 500), true);
            spec.refused("one more in level " + level, IOOBE, RICH, x -> x.breakMachine(k, machines[k], 500));
            spec.refused("-1 in level " + level, IOOBE, RICH, x -> x.breakMachine(k, -1, 500));
        }
        says("- `n`: 1 to 999");
        for (int n : new int[] {1, 999}) {
            BaggageLoop x = SOME.get();
            x.breakMachine(3, 2, n);
            due("until", x.brokenUntil(3, 2), 13 + n);
        }
        says("Returns true if it is broken for longer than before.");
        BaggageLoop x = Check.loaded(Airports.RICH_TEXT);
        due("never broken", x.breakMachine(1, 0, 5), true);
        due("shorter", x.breakMachine(1, 0, 4), false);
        due("as long", x.breakMachine(1, 0, 5), false);
        due("longer", x.breakMachine(1, 0, 6), true);
        x.advance(3);
        due("until the same tick", x.breakMachine(1, 0, 3), false);
        due("a tick longer", x.breakMachine(1, 0, 4), true);
        x.advance(50);
        due("that is over", x.breakMachine(1, 0, 1), true);
        calls.needsAirport("breakMachine");
        says("Throws `IndexOutOfBoundsException` if there is no such level or machine");
        for (int wrong : new int[] {0, 4, -1, MIN, MAX}) {
            spec.refused("level " + wrong, IOOBE, RICH, y -> y.breakMachine(wrong, 0, 1));
            spec.refused("level " + wrong, IOOBE, RICH, y -> y.breakMachine(wrong, 0, 0));
        }
        says("Throws `IllegalArgumentException` if n is out of range");
        for (int wrong : new int[] {0, 1000, -1, MIN, MAX}) {
            spec.refused("n " + wrong, IAE, RICH, y -> y.breakMachine(1, 1, wrong));
        }
    }

    private static final Supplier<BaggageLoop> BROKEN = () -> {
        BaggageLoop x = SOME.get();
        x.breakMachine(2, 0, 20);
        return x;
    };

    private static void stopLoop() {
        promise(60);
        // At ENTRY at 2; the flight opens late.
        String round = "loop 10 0 5" + QUICK + ";flight 3 900 999;bags 1 1 0";
        says("Lets the loop be stopped in the next n ticks, in place of what was told before.");
        for (int n : new int[] {1, 2, 50}) {
            BaggageLoop x = at(round, 4);
            x.stopLoop(n);
            x.advance(n);
            due("stopped for " + n, x.positionOf(0), 2);
            x.advance(1);
            due("after " + n, x.positionOf(0), 3);
        }
        BaggageLoop shorter = at(round, 4);
        shorter.stopLoop(9);
        shorter.stopLoop(1);
        shorter.advance(2);
        due("shorter than before", shorter.positionOf(0), 3);
        says("This is a change.");
        isChange("stopLoop", SOME, x -> x.stopLoop(9));
        isChange("stopLoop 0", SOME, x -> x.stopLoop(0));
        isChange("stopLoop 0", RICH, x -> x.stopLoop(0));
        says("- `n`: 0 to 999; with 0 it is not stopped any more");
        calls.arguments(RICH, "stopLoop", Calls.number(0, 999));
        BaggageLoop free = at(round, 4);
        free.stopLoop(9);
        free.advance(1);
        free.stopLoop(0);
        free.advance(1);
        due("it moves", free.positionOf(0), 3);
        says("Returns the time of the last tick in which it is stopped; the time now if n is 0.");
        due("0 at 0", Check.loaded(round).stopLoop(0), 0);
        due("1 at 0", Check.loaded(round).stopLoop(1), 1);
        due("0 at 4", at(round, 4).stopLoop(0), 4);
        due("999 at 4", at(round, 4).stopLoop(999), 1003);
        due("999 at 9999", Airports.late(9999).stopLoop(999), 10998);
        calls.needsAirport("stopLoop");
        says("Throws `IllegalArgumentException` if n is out of range");
        for (int wrong : new int[] {-1, 1000, MIN, MAX}) {
            spec.refused("n " + wrong, IAE, SOME, x -> x.stopLoop(wrong));
        }
    }

    private static void reroute() {
        promise(61);
        says("Gives a bag another flight.");
        BaggageLoop x = SOME.get();
        x.reroute(5, 1);
        due("flight", x.flightOf(5), 1);
        due("another bag", x.flightOf(4) * 10 + x.flightOf(6), 12);
        says("This is a change, even if it is the same one.");
        isChange("reroute", SOME, y -> y.reroute(5, 1));
        isChange("reroute to the same", SOME, y -> y.reroute(5, 2));
        isChange("reroute to the same", RICH, y -> y.reroute(5, 0));
        says("- `bag`: number of the bag");
        spec.fails("bag 0", null, () -> RICH.get().reroute(0, 0));
        spec.fails("the last bag", null, () -> RICH.get().reroute(RICH_BAGS - 1, 0));
        says("- `flight`: number of the flight");
        spec.fails("the last flight", null, () -> RICH.get().reroute(0, 2));
        says("Returns the number of the previous flight.");
        BaggageLoop y = Check.loaded(Airports.RICH_TEXT);
        due("0", y.reroute(0, 2), 0);
        due("2", y.reroute(0, 2), 2);
        due("2 again", y.reroute(0, 1), 2);
        due("1", y.reroute(0, 0), 1);
        calls.needsAirport("reroute");
        says("Throws `IndexOutOfBoundsException` if there is no such bag or flight");
        for (int bag : new int[] {0, RICH_BAGS - 1, RICH_BAGS, -1, MIN, MAX}) {
            for (int flight : new int[] {0, 2, 3, -1, MIN, MAX}) {
                boolean there = bag >= 0 && bag < RICH_BAGS && flight >= 0 && flight < 3;
                if (!there) {
                    spec.refused("reroute " + bag + " " + flight, IOOBE, RICH, z -> z.reroute(bag, flight));
                }
            }
        }
        says("Throws `IllegalArgumentException` if the bag is in one of the states 10 to 13");
        for (int state = 0; state < 14; state++) {
            int s = state;
            if (state < 10) {
                due("state " + state, Airports.inState(state).reroute(0, 1), 0);
            } else {
                spec.refused("state " + state, IAE, () -> Airports.inState(s), z -> z.reroute(0, 1));
                spec.refused("state " + state + " to the same", IAE, () -> Airports.inState(s), z -> z.reroute(0, 0));
            }
        }
    }

    // ---- undo, save and restore

    private static void undo() {
        promise(62);
        says("Undoes the latest change that was not undone yet.");
        BaggageLoop x = Check.loaded(Airports.RICH_TEXT);
        x.setHot(1);
        x.setHot(2);
        x.setHot(3);
        x.undo();
        x.undo();
        due("two are undone", x.setHot(9), 1);
        x.undo();
        x.undo();
        due("all are undone", x.setHot(9), 7);
        says("Returns the number of changes that can still be undone.");
        BaggageLoop y = RICH.get();
        for (int left = 5; left >= 0; left--) {
            due("undo", y.undo(), left);
        }
        says("Throws `IllegalStateException` if there is none");
        spec.fails("after the last one", ISE, () -> y.undo());
        spec.refused("no airport", ISE, Airports.EMPTY, z -> z.undo());
        spec.refused("a failed load", ISE, Airports.FAILED, z -> z.undo());
        spec.refused("no change", ISE, Airports.FRESH, z -> z.undo());
        spec.refused("restored", ISE, SAVED, z -> z.undo());
    }

    private static void undoable() {
        promise(63);
        says("Returns the number of changes that can be undone.");
        BaggageLoop z = Check.loaded(Airports.RICH_TEXT);
        for (int i = 1; i <= 9; i++) {
            z.advance(1);
            due("after " + i, z.undoable(), Math.min(i, 6));
        }
        z.undo();
        due("after undo", z.undoable(), 5);
        z.save(0);
        due("after save", z.undoable(), 5);
        z.loadedIn(9);
        due("after a question", z.undoable(), 5);
        z.restore(0);
        due("after restore", z.undoable(), 0);
        says("Returns 0 to 6.");
        due("no airport", new BaggageLoop().undoable(), 0);
        due("no change", Check.loaded(Airports.RICH_TEXT).undoable(), 0);
        due("6", RICH.get().undoable(), 6);
    }

    private static void save() {
        promise(64);
        says("Saves the state in a slot, in place of what was saved there.");
        for (int slot = 0; slot < 2; slot++) {
            BaggageLoop x = Check.loaded(Airports.RICH_TEXT);
            x.advance(3);
            x.save(slot);
            x.advance(4);
            x.save(slot);
            x.advance(5);
            due("the latest one", x.restore(slot), 7);
            int other = 1 - slot;
            spec.fails("the other slot", ISE, () -> x.restore(other));
            int s = slot;
            for (int i = 0; i < CHANGES.size(); i++) {
                Consumer<BaggageLoop> change = CHANGES.get(i);
                // What is saved is a copy: changes after it do not reach it.
                BaggageLoop y = SOME.get();
                y.save(s);
                String before = states(y);
                change.accept(y);
                y.restore(s);
                due("a copy", states(y), before);
            }
        }
        BaggageLoop both = Check.loaded(Airports.RICH_TEXT);
        both.save(0);
        both.advance(9);
        both.save(1);
        both.advance(9);
        due("slot 0", both.restore(0), 0);
        due("slot 1", both.restore(1), 9);
        says("- `slot`: 0 or 1");
        calls.arguments(RICH, "save", Calls.index(2));
        says("Returns the time of the saved state.");
        due("0", Check.loaded(Airports.RICH_TEXT).save(0), 0);
        due("17", RICH.get().save(1), 17);
        due("9999", Airports.late(9999).save(1), 9999);
        calls.needsAirport("save");
        says("Throws `IndexOutOfBoundsException` if there is no such slot");
        for (int wrong : new int[] {-1, 2, MIN, MAX}) {
            spec.refused("slot " + wrong, IOOBE, SOME, x -> x.save(wrong));
        }
    }

    private static void restore() {
        promise(65);
        says("Restores what was saved in a slot; it stays saved.");
        BaggageLoop x = RICH.get();
        String at8 = states(restored(RICH.get(), 0));
        String at13 = states(restored(RICH.get(), 1));
        for (int round = 0; round < 3; round++) {
            x.restore(0);
            due("slot 0", states(x), at8);
            x.advance(30);
            x.restore(1);
            due("slot 1", states(x), at13);
            x.addBags(1, 9, 0);
        }
        says("Nothing can be undone afterwards.");
        x.restore(0);
        due("undoable", x.undoable(), 0);
        spec.fails("undo", ISE, () -> x.undo());
        x.advance(1);
        due("a change after it", x.undo(), 0);
        due("is undone", x.time(), 8);
        says("- `slot`: 0 or 1");
        calls.arguments(RICH, "restore", Calls.index(2));
        says("Returns the time of the restored state.");
        due("slot 0", RICH.get().restore(0), 8);
        due("slot 1", RICH.get().restore(1), 13);
        BaggageLoop zero = Check.loaded(Airports.RICH_TEXT);
        zero.save(1);
        zero.advance(500);
        due("0", zero.restore(1), 0);
        says("Throws `IndexOutOfBoundsException` if there is no such slot");
        for (int wrong : new int[] {-1, 2, MIN, MAX}) {
            spec.refused("slot " + wrong, IOOBE, RICH, y -> y.restore(wrong));
            spec.refused("slot " + wrong + " without an airport", IOOBE, Airports.EMPTY, y -> y.restore(wrong));
        }
        says("Throws `IllegalStateException` if nothing is saved there");
        for (int slot = 0; slot < 2; slot++) {
            int s = slot;
            spec.refused("slot " + slot + " without an airport", ISE, Airports.EMPTY, y -> y.restore(s));
            spec.refused("slot " + slot + " after a failed load", ISE, Airports.FAILED, y -> y.restore(s));
            spec.refused("slot " + slot, ISE, SOME, y -> y.restore(s));
            spec.refused("slot " + slot + " of another airport", ISE, LOADED_AGAIN, y -> y.restore(s));
        }
        spec.refused("the other slot", ISE, SAVED, y -> y.restore(1));
    }

    private static BaggageLoop restored(BaggageLoop x, int slot) {
        x.restore(slot);
        return x;
    }

    private static final Supplier<BaggageLoop> LOADED_AGAIN = () -> {
        BaggageLoop x = RICH.get();
        x.load(Airports.NEXT_TEXT.length());
        x.advance(3);
        return x;
    };
}
