import java.math.BigInteger;

/** What the document says up to section 5, sentence by sentence: the parts, the states, the queues, a tick, the events. */
public final class PartsBoundaryTest {
    private static final Class<IndexOutOfBoundsException> IOOBE = Check.IOOBE;
    private static final String QUICK = Airports.QUICK;
    private static final String WIDE = Airports.WIDE;

    private static final Spec spec = new Spec();

    public static void main(String[] args) {
        whatItIs();
        loop();
        numbering();
        machines();
        flightTimes();
        draws();
        states();
        queues();
        startOfTime();
        orderOfSteps();
        stepsAandB();
        stepC();
        lanes();
        stepD();
        stepE();
        stepsFandG();
        breaksAndStops();
        shifts();
        keepLines();
        events();
        spec.end("What it is", "Description", "1", "2", "3", "4", "5");
    }

    private static void says(String words) {
        spec.says(words);
    }

    private static void due(String what, Object got, Object want) {
        spec.due(what, got, want);
    }

    private static BaggageLoop at(String text, int time) {
        return Airports.at(text, time);
    }

    /** The state of bag 0 at some times: pairs of a time and a state. */
    private static void states(String what, String text, int... timesAndStates) {
        for (int i = 0; i < timesAndStates.length; i += 2) {
            due(what + " at " + timesAndStates[i], at(text, timesAndStates[i]).stateOf(0), timesAndStates[i + 1]);
        }
    }

    private static void whatItIs() {
        spec.of("What it is");
        says("A simulator of the baggage system of an airport.");
        String text = "loop 10 0 5" + QUICK + ";flight 3 10 99;lane 2 1;bags 1 1 0";
        due("a bag is loaded", at(text, 11).stateOf(0), 10);
        says("An object is used for at most 512 calls after it has been made; what later calls answer is free.");
        BaggageLoop x = new BaggageLoop();
        Check.fill(x, text);
        // The appends, this call of buffered, the load and the last call are made as well.
        int delays = 512 - x.buffered() / 20 - 3;
        due("load", x.load(text.length()), 1);
        for (int i = 0; i < delays; i++) {
            x.delay(0, 999);
        }
        due("call 512", x.closeOf(0), 99 + 999 * delays);

        spec.of("Description");
        says("Bags are screened in up to three levels, go round on a loop, wait in storage lanes until their flights open, and "
                + "are loaded, or miss their flights.");
        int[] way = {1, 2, 2, 8, 3, 8, 4, 9, 9, 9, 10, 8, 11, 10};
        for (int i = 0; i < way.length; i += 2) {
            due("at " + way[i], at(text, way[i]).stateOf(0), way[i + 1]);
        }
        due("missed", at(text.replace("10 99", "0 1"), 7).stateOf(0), 11);
        says("Hot bags, whose flights close soon, go first.");
        due("the bag of flight 1", at(text.replace("lane 2 1", "flight 4 10 98") + ";bags 1 1 1", 1).machineAt(1, 0), 1);
        says("The class parses an airport, simulates it tick by tick, and answers what-if questions.");
        due("in 11 ticks", Check.loaded(text).timeToClear(99), 11);
    }

    // ---- 1. The parts

    private static void loop() {
        spec.of("1");
        says("The loop has the positions 0 to LENGTH - 1; at each of them there is at most one bag.");
        for (int length : new int[] {4, 40}) {
            BaggageLoop x = Check.loaded("loop " + length + " 0 1" + QUICK + ";flight 2 0 1");
            due("the first position", x.bagAt(0), -1);
            due("the last position", x.bagAt(length - 1), -1);
            spec.fails("before the first", IOOBE, () -> x.bagAt(-1));
            spec.fails("after the last", IOOBE, () -> x.bagAt(length));
        }
        // One bag a tick comes onto the loop, until it is full.
        BaggageLoop full = at("loop 4 0 1" + WIDE + ";flight 2 900 999;bags 1 7 0", 1);
        for (int time = 2; time < 30; time++) {
            full.advance(1);
            int load = Math.min(time - 1, 4);
            due("bags on the loop at " + time, full.loopLoad(), load);
            int found = 0;
            for (int bag = 0; bag < 7; bag++) {
                int position = full.positionOf(bag);
                if (position >= 0) {
                    found++;
                    due("the bag at " + position, full.bagAt(position), bag);
                }
            }
            due("bags with a position at " + time, found, load);
        }
        due("the others wait", full.waiting(4), 3);

        says("Bags come onto it at the position ENTRY; short bags leave it at the position PROBLEM.");
        int[][] places = {{4, 0, 3}, {4, 3, 0}, {4, 2, 1}, {40, 39, 38}, {40, 38, 39}};
        for (int[] p : places) {
            String text = "loop " + p[0] + " " + p[1] + " " + p[2] + QUICK + ";flight "
                    + freePosition(p) + " 0 1;bags 1 1 0";
            due("comes at ENTRY", at(text, 2).positionOf(0), p[1]);
            int gone = 2 + Math.floorMod(p[2] - p[1], p[0]);
            states("leaves at PROBLEM", text, gone - 1, 8, gone, 11);
        }

        says("Flights and lanes have a position each.");
        BaggageLoop f = at("loop 6 2 3" + QUICK + ";flight 5 0 99;flight 0 0 99;bags 1 1 0;bags 2 1 1", 20);
        due("loaded at the last position", f.finishedAt(0), 5);
        due("loaded at the first position", f.finishedAt(1), 7);
        BaggageLoop l = at("loop 6 2 3" + QUICK + ";flight 4 50 99;lane 5 1;lane 0 1;bags 1 2 0", 20);
        due("stored at the last position", l.laneOf(0) * 100 + l.event(0, 0), 5);
        due("stored at the first position", l.laneOf(1) * 100 + l.event(1, 0), 107);
    }

    private static int freePosition(int[] taken) {
        int position = 0;
        while (position == taken[1] || position == taken[2]) {
            position++;
        }
        return position;
    }

    private static void numbering() {
        says("Flights, lanes and bags are numbered from 0 in the order of the text.");
        String mixed = "loop 10 0 5" + QUICK + ";flight 1 10 20;bags 5 1 0;lane 2 1;flight 3 11 21;bags 4 2 1"
                + ";lane 4 3;flight 6 12 22;bags 3 1 2";
        BaggageLoop x = at(mixed, 9);
        int[] opens = {10, 11, 12};
        for (int i = 0; i < 3; i++) {
            due("openOf " + i, x.openOf(i), opens[i]);
        }
        int[][] bags = {{5, 0}, {4, 1}, {4, 1}, {3, 2}};
        for (int i = 0; i < 4; i++) {
            due("arrivalOf " + i, x.arrivalOf(i), bags[i][0]);
            due("flightOf " + i, x.flightOf(i), bags[i][1]);
        }
        due("the first lane", x.laneOf(3), 0);
        due("the second lane", x.laneOf(1), 1);

        says("A lane holds at most CAPACITY bags in a sequence.");
        for (int capacity : new int[] {1, 2, 20}) {
            String text = "loop 40 0 39" + WIDE + ";flight 30 900 999;lane 5 " + capacity + ";bags 1 21 0";
            // Bag k is at ENTRY at 2 + k and at the lane at 7 + k.
            BaggageLoop lane = at(text, 6 + capacity);
            due("full", lane.laneSize(0), capacity);
            lane.advance(1);
            due("not more than full", lane.laneSize(0), capacity);
            due("the next one stays on the loop", lane.positionOf(capacity), 5);
            for (int place = 0; place < capacity; place++) {
                due("place " + place, lane.laneAt(0, place), place);
            }
        }
    }

    private static void machines() {
        says("Level k of the screening (1 to 3) has MACHINES machines, numbered from 0, each of which needs TICKS ticks "
                + "for a bag, and an ALARM (per mille).");
        for (int level = 1; level <= 3; level++) {
            int k = level;
            for (int machines : new int[] {1, 4}) {
                String text = "loop 10 0 5" + levels(k, machines + " 1 0") + " hot 0 seed 0;flight 3 0 1;bags 1 9 0";
                BaggageLoop x = at(text, k);
                for (int m = 0; m < machines; m++) {
                    due("machine " + m + " of level " + k, x.machineAt(k, m), k == 1 || m == 0 ? m : -1);
                }
                spec.fails("no machine -1", IOOBE, () -> x.machineAt(k, -1));
                spec.fails("no machine " + machines, IOOBE, () -> x.machineAt(k, machines));
            }
            for (int ticks : new int[] {1, 2, 99}) {
                String text = "loop 10 0 5" + levels(k, "1 " + ticks + " 0") + " hot 0 seed 0;flight 3 900 999;bags 1 1 0";
                states(ticks + " ticks in level " + k, text, k, 2 * k, k + ticks - 1, 2 * k, k + ticks, 8);
            }
            alarms(k);
        }
        // Four machines in each level, so that a machine too many would be one of another level.
        String four = "loop 10 0 5 level 4 A level 4 B level 4 C hot 0 seed 0;flight 3 900 999;bags 1 1 0";
        for (int ticks = 1; ticks <= 4; ticks++) {
            int t = ticks;
            String text = four.replace("A", t + " 1000").replace("B", t + " 1000").replace("C", t + " 0");
            states(t + " ticks in each level", text, t, 2, t + 1, 4, 2 * t, 4, 2 * t + 1, 6, 3 * t, 6, 3 * t + 1, 8);
        }
    }

    /** Levels of one machine and one tick; those before a level send all bags on, the others send none. */
    private static String levels(int level, String told) {
        StringBuilder text = new StringBuilder();
        for (int k = 1; k <= 3; k++) {
            text.append(" level ").append(k == level ? told : k < level ? "1 1 1000" : "1 1 0");
        }
        return text.toString();
    }

    /** A draw of 0 is no alarm with an ALARM of 0 alone, one of 999 is an alarm with one of 1000 alone. */
    private static void alarms(int level) {
        int next = level == 3 ? 12 : 2 * level + 2;
        int[][] drawsAndAlarms = {{0, 0, 8}, {0, 1, next}, {999, 999, 8}, {999, 1000, next}, {500, 500, 8}, {500, 501, next}};
        for (int[] d : drawsAndAlarms) {
            int seed = 0;
            while (draw(seed, level - 1) != d[0]) {
                seed++;
            }
            String text = "loop 10 0 5" + levels(level, "1 1 " + d[1]) + " hot 0 seed " + seed
                    + ";flight 3 900 999;bags 1 1 0";
            states("draw " + d[0] + " and ALARM " + d[1] + " in level " + level, text, level + 1, d[2]);
        }
    }

    private static void flightTimes() {
        says("A flight is not open yet at times before OPEN, it is open from OPEN to CLOSE - 1, and closed from CLOSE on.");
        int[][] flights = {{5, 8}, {0, 1}, {0, 1999}, {999, 1000}, {999, 1999}, {5, 6}};
        for (int[] f : flights) {
            String text = "loop 10 0 5" + QUICK + ";flight 3 " + f[0] + " " + f[1];
            if (f[0] > 0) {
                due("before OPEN " + f[0], at(text, f[0] - 1).flightState(0), 0);
            }
            due("at OPEN " + f[0], at(text, f[0]).flightState(0), 1);
            due("before CLOSE " + f[1], at(text, f[1] - 1).flightState(0), 1);
            due("at CLOSE " + f[1], at(text, f[1]).flightState(0), 2);
            due("after CLOSE " + f[1], at(text, f[1] + 1).flightState(0), 2);
        }
    }

    private static int draw(int seed, int number) {
        BigInteger s = BigInteger.valueOf(seed);
        for (int i = 0; i <= number; i++) {
            s = s.multiply(BigInteger.valueOf(1103515245)).add(BigInteger.valueOf(12345)).mod(BigInteger.TWO.pow(31));
        }
        return s.divide(BigInteger.valueOf(65536)).mod(BigInteger.valueOf(1000)).intValue();
    }

    private static void draws() {
        says("A draw sets s to (s * 1103515245 + 12345) modulo 2^31 and yields (s / 65536, rounded down) modulo 1000; "
                + "s is SEED at first.");
        for (int seed : new int[] {0, 1, 2, 4711, 65536, 99998, 99999}) {
            for (int bag = 0; bag < 20; bag++) {
                int drawn = draw(seed, bag);
                due("no alarm: seed " + seed + " draw " + bag, screened(seed, bag, drawn), false);
                due("alarm: seed " + seed + " draw " + bag, screened(seed, bag, drawn + 1), true);
            }
        }
    }

    /** Bag number n leaves the one machine of level 1 with the draw number n; tells whether it waits for level 2 then. */
    private static boolean screened(int seed, int bag, int alarm) {
        String text = "loop 40 0 39 level 1 1 " + alarm + " level 4 99 0 level 1 1 0 hot 0 seed " + seed
                + ";flight 5 900 999;bags 1 20 0";
        int state = at(text, 2 + bag).stateOf(bag);
        return state == 3 || state == 4;
    }

    // ---- 2. States of a bag

    private static void states() {
        spec.of("2");
        // The shifts let the bag wait for each level; the lane keeps it until its flight opens.
        String way = "loop 10 0 5 level 1 1 1000 level 1 1 1000 level 1 1 0 hot 0 seed 0;flight 3 40 50;lane 2 1"
                + ";bags 2 1 0;shift 1 0 2 3;shift 2 0 5 6;shift 3 0 8 9";
        says("0: not arrived yet; 1, 2: waits for, is in a machine of screening level 1;");
        states("0", way, 0, 0, 1, 0);
        states("1", way, 2, 1, 3, 1);
        states("2", way, 4, 2);
        says("3, 4: of level 2; 5, 6: of level 3;");
        states("3", way, 5, 3, 6, 3);
        states("4", way, 7, 4);
        states("5", way, 8, 5, 9, 5);
        states("6", way, 10, 6);
        says("7: waits for the loop;");
        BaggageLoop x = at("loop 10 0 5" + WIDE + ";flight 3 0 99;bags 1 2 0", 2);
        due("7", x.stateOf(1), 7);
        x.advance(1);
        due("8 after it", x.stateOf(1), 8);
        says("8: is on the loop;");
        states("8", way, 11, 8, 12, 8);
        says("9: is stored in a lane;");
        states("9", way, 13, 9, 39, 9, 40, 8);
        says("10: loaded;");
        states("10", way, 41, 10, 500, 10);
        says("11: short;");
        states("11", "loop 10 0 5" + QUICK + ";flight 3 0 1;bags 1 1 0", 6, 8, 7, 11, 500, 11);
        says("12: rejected;");
        states("12", way.replace("level 1 1 0", "level 1 1 1000"), 10, 6, 11, 12, 500, 12);
        says("13: offloaded.");
        BaggageLoop off = at(way, 41);
        off.offload(0);
        due("13", off.stateOf(0), 13);
    }

    // ---- 3. Queues

    private static void queues() {
        spec.of("3");
        says("A bag is hot if CLOSE of its flight minus the time is at most HOT.");
        int[][] closeAndHot = {{60, 0}, {60, 7}, {60, 59}, {1000, 999}, {1999, 999}, {1, 0}};
        for (int[] c : closeAndHot) {
            String text = "loop 10 0 5" + QUICK.replace("hot 0", "hot " + c[1]) + ";flight 3 0 " + c[0] + ";bags 999 1 0";
            due("one more than HOT " + c[1], at(text, c[0] - c[1] - 1).isHot(0), false);
            due("HOT " + c[1], at(text, c[0] - c[1]).isHot(0), true);
            due("after CLOSE", at(text, c[0] + 1).isHot(0), true);
        }
        due("hot at first", Check.loaded("loop 10 0 5 level 1 1 0 level 1 1 0 level 1 1 0 hot 999 seed 0;flight 3 0 999"
                + ";bags 1 1 0").isHot(0), true);

        says("The bags that wait for a screening level, or for the loop, form a queue: hot ones first, then those whose "
                + "flights have the smaller CLOSE, then those with the earlier arrival, then those with the smaller number.");
        for (int queue = 1; queue <= 4; queue++) {
            BaggageLoop x = waitingFor(queue);
            // Bag 3 closes first, though it comes last; bag 2 arrives before 0, 1 and 4.
            order(x, queue, 3, 2, 0, 1, 4);
            x.setHot(43);
            due("bag 3 alone is hot", x.isHot(3) && !x.isHot(2), true);
            order(x, queue, 3, 2, 0, 1, 4);
            x.setHot(999);
            order(x, queue, 3, 2, 0, 1, 4);
            x.delay(1, 9);
            order(x, queue, 3, 2, 0, 1, 4);
            x.delay(1, 1);
            order(x, queue, 2, 0, 1, 4, 3);
            x.delay(1, 1);
            order(x, queue, 2, 0, 1, 4, 3);
            x.reroute(1, 1);
            order(x, queue, 2, 0, 4, 1, 3);
        }
    }

    /** Five bags that wait in a queue at time 7; the sixth is at ENTRY if that is the queue of the loop. */
    private static BaggageLoop waitingFor(int queue) {
        String levels = " level 4 1 " + (queue > 1 && queue < 4 ? 1000 : 0)
                + " level 4 1 " + (queue == 3 ? 1000 : 0) + " level 4 1 0";
        String text = "loop 10 0 5" + levels + " hot 0 seed 0;flight 3 0 60;flight 4 0 50;flight 6 0 60"
                + ";bags 3 2 0;bags 2 1 0;bags 4 1 1;bags 3 1 2" + (queue < 4 ? ";shift " + queue + " 0 0 1999"
                : ";bags 1 1 0");
        BaggageLoop x = at(text, 2);
        if (queue == 4) {
            x.stopLoop(99);
        }
        x.advance(5);
        return x;
    }

    private static void order(BaggageLoop x, int queue, int... bags) {
        due("waiting " + queue, x.waiting(queue), bags.length);
        for (int place = 0; place < bags.length; place++) {
            due("place " + place + " of queue " + queue, x.queueAt(queue, place), bags[place]);
        }
    }

    // ---- 4. A tick

    private static void startOfTime() {
        spec.of("4");
        says("The time is 0 at first; bags whose arrival is at time 0 wait for level 1 then.");
        BaggageLoop x = Check.loaded("loop 10 0 5" + QUICK + ";flight 3 0 9;bags 0 1 0;bags 1 1 0");
        due("the time", x.time(), 0);
        due("arrival at 0", x.stateOf(0), 1);
        due("arrival at 1", x.stateOf(1), 0);
        due("no machine has begun", x.machineAt(1, 0), -1);
    }

    private static void orderOfSteps() {
        says("A tick consists of these steps, in this order.");
        // (a) before (f): it is in the machine in the tick in which it arrives.
        states("(a) before (f)", "loop 10 0 5" + QUICK + ";flight 3 0 99;bags 3 1 0", 2, 0, 3, 2);
        // (b) before (c): it is loaded in the tick in which it moves there.
        states("(b) before (c)", "loop 10 0 5" + QUICK + ";flight 3 0 99;bags 1 1 0", 4, 8, 5, 10);
        // (c) before (d): bag 1 is stored, which frees the position for bag 0 in the same tick.
        String text = "loop 10 0 5" + WIDE + ";flight 3 20 99;flight 4 30 99;lane 2 2;bags 1 1 0;bags 17 1 1";
        BaggageLoop x = at(text, 19);
        due("bag 1 is before the lane", x.positionOf(1), 1);
        x.advance(1);
        due("bag 1 is stored", x.laneAt(0, 0), 1);
        due("bag 0 is on the loop", x.positionOf(0), 2);
        // (e) before (f): a machine takes the next bag in the tick in which one leaves it.
        BaggageLoop y = at("loop 10 0 5" + QUICK + ";flight 3 0 99;bags 1 2 0", 2);
        due("(e) before (f)", y.machineAt(1, 0), 1);
        // (e) before (f), from a level to the next one.
        states("(e) before (f)", "loop 10 0 5" + levels(2, "1 1 0") + " hot 0 seed 0;flight 3 0 99;bags 1 1 0", 1, 2, 2, 4);
        // (e) before (g): it is on the loop in the tick in which it leaves the machine.
        due("(e) before (g)", y.positionOf(0), 0);
        // (b) before (g): what comes onto the loop does not move in that tick.
        y.advance(1);
        due("(b) before (g)", y.positionOf(1), 0);
        // (c) before (g): a flight at the position behind ENTRY has to wait for the move.
        states("(c) before (g)", "loop 10 0 5" + QUICK + ";flight 1 0 99;bags 1 1 0", 2, 8, 3, 10);
    }

    private static void stepsAandB() {
        says("(a) The time grows by 1.");
        BaggageLoop x = Check.loaded("loop 4 0 1" + QUICK + ";flight 2 900 999;bags 999 1 0;bags 1 1 0");
        for (int time = 1; time <= 3; time++) {
            x.advance(1);
            due("the time", x.time(), time);
        }
        says("Bags whose arrival is the time now wait for level 1.");
        String held = "loop 4 0 1" + QUICK + ";flight 2 900 999;bags 999 1 0;shift 1 0 0 1999";
        states("the last arrival", held, 998, 0, 999, 1, 1000, 1);
        BaggageLoop y = at(held, 10);
        y.addBags(1, 1, 0);
        due("added", y.stateOf(1), 0);
        y.advance(1);
        due("arrives with the next tick", y.stateOf(1), 1);

        says("(b) Each bag on the loop moves from its position p to the position (p + 1) modulo LENGTH.");
        int[][] loops = {{4, 0}, {4, 3}, {5, 2}, {40, 0}, {40, 39}, {40, 17}};
        for (int[] l : loops) {
            BaggageLoop b = at(around(l[0], l[1]), 2);
            for (int moves = 0; moves < 2 * l[0] + 1; moves++) {
                due("after " + moves + " moves", b.positionOf(0), (l[1] + moves) % l[0]);
                b.advance(1);
            }
        }
        says("If this is ENTRY, its number of laps grows by 1.");
        for (int[] l : loops) {
            BaggageLoop b = at(around(l[0], l[1]), 2);
            for (int moves = 0; moves < 3 * l[0] + 1; moves++) {
                due("laps after " + moves + " moves", b.lapsOf(0), moves / l[0]);
                b.advance(1);
            }
        }
    }

    /** A bag that is at ENTRY at 2 and goes round, as its flight opens late. */
    private static String around(int length, int entry) {
        int problem = entry == 0 ? 1 : 0;
        int flight = freePosition(new int[] {length, entry, problem});
        return "loop " + length + " " + entry + " " + problem + QUICK + ";flight " + flight + " 900 999;bags 1 1 0";
    }

    private static void stepC() {
        says("(c) For each position of the loop with a bag, by numbers:");
        // At 5, bag 0 is at 3 and bag 1 at 2: both are loaded, the smaller position first.
        BaggageLoop x = at("loop 10 0 5" + QUICK + ";flight 3 0 99;flight 2 0 99;bags 1 1 0;bags 2 1 1", 5);
        due("first at position 2", x.event(0, 2), 1);
        due("then at position 3", x.event(1, 2), 0);
        // At 10, bag 0 is over the end of the loop at 0, bag 1 at 9.
        BaggageLoop w = at("loop 10 2 5" + QUICK + ";flight 0 0 99;flight 9 0 99;bags 1 1 0;bags 2 1 1", 10);
        due("first at position 0", w.event(0, 2), 0);
        due("then at position 9", w.event(1, 2), 1);
        // What has left at a smaller position is on the loop no more when a keep line is asked.
        String two = "loop 10 0 5" + QUICK + ";flight 7 50 60;lane 4 5;lane 2 5;bags 1 1 0;bags 3 1 0;keep load<2";
        due("the load before is 2", at(two, 5).loopLoad(), 2);
        due("position 2 is asked first", at(two, 6).stateOf(1), 9);
        due("position 4 is asked with a load of 1", at(two, 6).stateOf(0), 8);

        says("- If it is the position of the flight of the bag, and the flight is open, the bag is loaded.");
        // The bag is at its flight at 5 and again at 15.
        String loaded = "loop 10 0 9" + QUICK + ";flight 3 OPEN CLOSE;bags 1 1 0";
        states("OPEN now", loaded.replace("OPEN", "5").replace("CLOSE", "99"), 4, 8, 5, 10);
        states("OPEN in a tick", loaded.replace("OPEN", "6").replace("CLOSE", "99"), 5, 8, 6, 8, 14, 8, 15, 10);
        states("CLOSE in a tick", loaded.replace("OPEN", "0").replace("CLOSE", "6"), 4, 8, 5, 10, 6, 10);
        states("CLOSE now", loaded.replace("OPEN", "0").replace("CLOSE", "5"), 5, 8, 10, 8, 11, 11);
        states("open for one tick", loaded.replace("OPEN", "5").replace("CLOSE", "6"), 5, 10);
        BaggageLoop other = at("loop 10 0 9" + QUICK + ";flight 3 0 99;flight 4 0 99;bags 1 1 1", 5);
        due("not at another flight", other.stateOf(0), 8);
        other.advance(1);
        due("at its own", other.stateOf(0), 10);

        says("- If it is PROBLEM, and the flight of the bag is closed, the bag becomes short.");
        String late = "loop 10 0 5" + QUICK + ";flight 6 0 CLOSE;bags 1 1 0";
        states("CLOSE now", late.replace("CLOSE", "7"), 6, 8, 7, 11);
        states("CLOSE in a tick", late.replace("CLOSE", "8"), 7, 8, 8, 8, 16, 8, 17, 11);
        states("closed for long", late.replace("CLOSE", "1"), 6, 8, 7, 11);
        states("not open yet", late.replace("6 0 CLOSE", "6 900 999"), 7, 8, 17, 8);

        says("- If it is the position of a lane, the flight of the bag is not open yet, the lane takes the bag, and no "
                + "keep line holds for the bag, the bag is stored as the last one of the lane.");
        String stored = "loop 10 0 5" + QUICK + ";flight 7 OPEN 99;lane 2 5;bags 1 1 0";
        states("OPEN in a tick", stored.replace("OPEN", "5"), 3, 8, 4, 9);
        states("OPEN now", stored.replace("OPEN", "4"), 4, 8);
        states("closed", stored.replace("OPEN 99", "0 1"), 4, 8);
        states("a keep line holds", stored.replace("OPEN", "50") + ";keep time=4", 4, 8, 14, 9);
        states("no keep line holds", stored.replace("OPEN", "50") + ";keep time=3;keep time=5", 4, 9);
        states("the third keep line holds", stored.replace("OPEN", "50") + ";keep time=3;keep time=5;keep time=4", 4, 8);
        BaggageLoop last = at(stored.replace("OPEN", "50").replace("bags 1 1 0", "bags 1 3 0"), 6);
        for (int place = 0; place < 3; place++) {
            due("the last one of the lane", last.laneAt(0, place), place);
        }
    }

    private static void lanes() {
        says("A lane takes a bag if it is not blocked, has fewer than CAPACITY bags, and is empty or OPEN of the flight of "
                + "its last bag is at most OPEN of the flight of this bag.");
        // Bag 0 is at the lane at 4, bag 1 at 5.
        String two = "loop 10 0 5" + QUICK + ";flight 7 50 99;flight 8 OPEN 99;lane 2 CAPACITY;bags 1 1 0;bags 2 1 1";
        String[][] cases = {{"2", "50", "9"}, {"2", "49", "8"}, {"2", "51", "9"}, {"1", "50", "8"}, {"1", "51", "8"},
            {"20", "999", "9"}, {"20", "6", "8"}};
        for (String[] c : cases) {
            String text = two.replace("CAPACITY", c[0]).replace("OPEN", c[1]).replace("999 99", "999 1000");
            due("OPEN " + c[1] + " CAPACITY " + c[0], at(text, 5).stateOf(1), Integer.valueOf(c[2]));
        }
        // The last one counts, not the first one: bag 2 is at the lane at 6.
        String three = "loop 10 0 5" + QUICK + ";flight 7 50 99;flight 8 60 99;flight 9 OPEN 99;lane 2 5;bags 1 1 0"
                + ";bags 2 1 1;bags 3 1 2";
        due("before the last one", at(three.replace("OPEN", "59"), 6).stateOf(2), 8);
        due("with the last one", at(three.replace("OPEN", "60"), 6).stateOf(2), 9);
        // An empty lane takes any bag, whatever the last one of the full lane before it waits for.
        BaggageLoop full = at("loop 10 0 9" + WIDE + ";flight 7 500 600;flight 8 400 450;lane 2 20;lane 4 1;bags 1 20 0"
                + ";bags 30 1 1", 34);
        due("the lane before is full", full.laneSize(0), 20);
        due("and was passed", full.positionOf(20), 3);
        full.advance(1);
        due("the empty lane takes the bag", full.laneOf(20), 1);
        // A lane that is empty again takes what it refused before.
        BaggageLoop again = at(two.replace("CAPACITY", "2").replace("OPEN", "49"), 5);
        again.reroute(0, 1);
        again.delay(0, 900);
        again.advance(10);
        due("OPEN of the rerouted last bag", again.stateOf(1), 9);
        for (boolean blocked : new boolean[] {true, false}) {
            BaggageLoop x = at(two.replace("CAPACITY", "2").replace("OPEN", "50"), 3);
            x.block(0, true);
            x.block(0, blocked);
            x.advance(1);
            due("blocked " + blocked, x.stateOf(0), blocked ? 8 : 9);
        }
    }

    private static void stepD() {
        says("(d) For each lane, by numbers: if it is not empty, the flight of its first bag is open or closed, and its "
                + "position on the loop is free, the first bag leaves the lane and comes onto the loop there.");
        String lane = "loop 10 0 5" + QUICK + ";flight 7 OPEN CLOSE;lane 2 5;bags 1 3 0";
        String opens = lane.replace("OPEN", "20").replace("CLOSE", "99");
        int[][] sizes = {{19, 3}, {20, 2}, {21, 1}, {22, 0}, {23, 0}};
        for (int[] s : sizes) {
            due("bags in the lane at " + s[0], at(opens, s[0]).laneSize(0), s[1]);
        }
        for (int bag = 0; bag < 3; bag++) {
            due("onto the loop there", at(opens, 20 + bag).positionOf(bag), 2);
        }
        // Closed after a tick: the second and the third bag leave all the same.
        String closes = lane.replace("OPEN", "20").replace("CLOSE", "21");
        due("closed", at(closes, 21).positionOf(1), 2);
        due("closed", at(closes, 22).positionOf(2), 2);
        // The position is not free while the loop stands, and free again with the first move.
        BaggageLoop x = at(opens, 20);
        x.stopLoop(5);
        x.advance(5);
        due("not free", x.laneSize(0), 2);
        x.advance(1);
        due("free", x.laneSize(0), 1);
        // A bag that passes the lane at 20 keeps its bags back for this tick.
        BaggageLoop y = at(opens.replace("bags 1 3 0", "bags 1 1 0;bags 17 1 1").replace(";lane", ";flight 8 0 99;lane"), 20);
        due("another bag is there", y.bagAt(2), 1);
        due("not free", y.laneSize(0), 1);
        y.advance(1);
        due("free", y.positionOf(0), 2);
        // Two lanes, and the first bag of each alone; the flight of the first bag counts, not that of the second.
        BaggageLoop two = at("loop 10 0 9" + WIDE + ";flight 7 20 99;flight 8 30 99;lane 2 1;lane 4 2;bags 1 2 0;bags 3 1 1", 19);
        due("lane 0", two.laneAt(0, 0), 0);
        due("lane 1", two.laneAt(1, 0) * 10 + two.laneAt(1, 1), 12);
        two.advance(1);
        due("both first ones leave", two.positionOf(0) * 10 + two.positionOf(1), 24);
        two.advance(9);
        due("the second is not open yet", two.laneAt(1, 0), 2);
        two.advance(1);
        due("open", two.positionOf(2), 4);
    }

    private static void stepE() {
        says("(e) For the levels 3, 2 and 1, in this order, and each machine with a bag, by numbers: its remaining ticks "
                + "decrease by 1.");
        int seed = 0;
        while (!tellsOrder(seed)) {
            seed++;
        }
        // At 4, bag 0 leaves level 3, bag 1 level 2 and bag 2 level 1, with the draws 3, 4 and 5.
        for (int more = 0; more < 8; more++) {
            int[] alarm = {draw(seed, 5) + (more & 1), draw(seed, 4) + (more >> 1 & 1), draw(seed, 3) + (more >> 2)};
            BaggageLoop x = at("loop 40 0 39 level 1 1 " + alarm[0] + " level 1 1 " + alarm[1] + " level 1 1 " + alarm[2]
                    + " hot 0 seed " + seed + ";flight 9 900 999;bags 1 3 0", 4);
            due("level 3", x.stateOf(0) == 12, (more & 4) != 0);
            due("level 2", x.levelOf(1) == 3, (more & 2) != 0);
            due("level 1", x.levelOf(2) == 2, (more & 1) != 0);
        }
        // Machines by numbers: the draws 0 to 3 are those of the bags in the machines 0 to 3.
        for (int machine = 0; machine < 4; machine++) {
            for (int more = 0; more < 2; more++) {
                BaggageLoop x = at("loop 40 0 39 level 4 1 " + (draw(7, machine) + more)
                        + " level 4 1 0 level 1 1 0 hot 0 seed 7;flight 9 900 999;bags 1 4 0", 2);
                due("machine " + machine, x.stateOf(machine) == 4, more == 1);
            }
        }
        says("If they are 0 then, the bag leaves the machine: if a draw is less than ALARM, it waits for the next level, "
                + "or is rejected in level 3; otherwise it waits for the loop.");
        String through = "loop 10 0 5 level 1 3 A level 1 2 A level 1 4 A hot 0 seed 0;flight 9 900 999;bags 1 1 0";
        states("alarms", through.replace("A", "1000"), 3, 2, 4, 4, 5, 4, 6, 6, 9, 6, 10, 12);
        states("no alarm", through.replace("A", "0"), 3, 2, 4, 8);
        states("no alarm in level 2", through.replace("2 A", "2 0").replace("A", "1000"), 5, 4, 6, 8);
        states("no alarm in level 3", through.replace("4 A", "4 0").replace("A", "1000"), 9, 6, 10, 8);
        BaggageLoop x = at(through.replace("A", "0").replace("bags 1 1 0", "bags 1 1 0;bags 2 1 0"), 4);
        due("the next one stays in it", x.machineAt(1, 0), 1);
        due("without a bag", at(through.replace("A", "0"), 4).machineAt(1, 0), -1);
    }

    /** Whether the draws send bag 0 to level 3 and bag 1 to level 2, and differ enough to tell who drew what. */
    private static boolean tellsOrder(int seed) {
        int[] d = new int[6];
        for (int i = 0; i < 6; i++) {
            d[i] = draw(seed, i);
        }
        return d[0] < d[5] && d[2] < d[5] && d[1] < d[4] && d[3] != d[4] && d[4] != d[5] && d[3] != d[5];
    }

    private static void stepsFandG() {
        says("(f) For the levels 3, 2 and 1, in this order, and each free machine, by numbers: the first bag of the queue "
                + "of the level, if there is one, comes into it for TICKS ticks.");
        for (int bags = 1; bags <= 5; bags++) {
            BaggageLoop x = at("loop 10 0 5 level 4 9 0 level 1 1 0 level 1 1 0 hot 0 seed 0;flight 3 0 99;flight 4 0 98"
                    + ";bags 1 " + bags + " 0;bags 1 1 1", 1);
            // The last bag has the smaller CLOSE.
            for (int machine = 0; machine < 4; machine++) {
                int want = machine > bags ? -1 : machine == 0 ? bags : machine - 1;
                due("machine " + machine + " of " + (bags + 1) + " bags", x.machineAt(1, machine), want);
            }
            due("the rest waits", x.waiting(1), Math.max(0, bags + 1 - 4));
        }
        BaggageLoop gap = Check.loaded("loop 10 0 5 level 3 9 0 level 1 1 0 level 1 1 0 hot 0 seed 0;flight 3 0 99;bags 1 1 0");
        gap.breakMachine(1, 0, 1);
        gap.advance(1);
        due("the next free machine", gap.machineAt(1, 1), 0);

        says("(g) If the position ENTRY is free, the first bag of the queue of the loop, if there is one, comes onto the "
                + "loop there; its number of laps is 0 then.");
        BaggageLoop x = at("loop 4 3 0" + WIDE + ";flight 1 900 999;flight 2 900 998;bags 1 4 0;bags 1 2 1", 30);
        due("the loop is full", x.loopLoad(), 4);
        due("the rest waits", x.waiting(4), 2);
        int free = x.bagAt(2);
        x.reroute(free, 1);
        x.delay(1, 1);
        due("laps of those on the loop", x.lapsOf(free) > 0, true);
        String queue = "loop 10 0 5" + WIDE + ";flight 3 900 999;flight 4 900 998;bags 1 3 0;bags 1 1 1";
        int[] entries = {-1, -1, 3, 0, 1, 2, -1};
        for (int time = 0; time < entries.length; time++) {
            BaggageLoop y = at(queue, time);
            due("at ENTRY at " + time, y.bagAt(0), entries[time]);
            if (entries[time] >= 0) {
                due("its laps", y.lapsOf(entries[time]), 0);
            }
        }
        // The bag at ENTRY stays there while the loop is stopped.
        BaggageLoop stopped = at(queue, 2);
        stopped.stopLoop(3);
        stopped.advance(3);
        due("not free", stopped.bagAt(0), 3);
        stopped.advance(1);
        due("free", stopped.bagAt(0), 0);
    }

    private static void breaksAndStops() {
        says("A machine may be broken for some ticks: in them it is left out of the steps (e) and (f); a bag in it stays.");
        String one = "loop 10 0 5 level 1 2 0 level 1 1 0 level 1 1 0 hot 0 seed 0;flight 3 900 999;bags 1 1 0";
        for (int n : new int[] {1, 2, 999}) {
            BaggageLoop x = at(one, 2);
            x.breakMachine(1, 0, n);
            Airports.advance(x, n);
            due("(e) is left out for " + n, x.stateOf(0), 2);
            due("the bag stays", x.machineAt(1, 0), 0);
            x.advance(1);
            due("(e) after " + n, x.stateOf(0), 8);
            BaggageLoop y = Check.loaded(one);
            y.breakMachine(1, 0, n);
            Airports.advance(y, n);
            due("(f) is left out for " + n, y.stateOf(0), 1);
            y.advance(1);
            due("(f) after " + n, y.stateOf(0), 2);
        }
        for (int level = 2; level <= 3; level++) {
            BaggageLoop x = at("loop 10 0 5" + levels(level, "1 1 0") + " hot 0 seed 0;flight 3 900 999;bags 1 1 0", level);
            x.breakMachine(level, 0, 2);
            x.advance(2);
            due("level " + level, x.stateOf(0), 2 * level);
            x.advance(1);
            due("level " + level + " after it", x.stateOf(0), 8);
        }

        says("The loop may be stopped for some ticks: in them step (b) is left out.");
        for (int n : new int[] {1, 2, 499}) {
            BaggageLoop x = at(around(10, 0), 4);
            x.stopLoop(n);
            x.advance(n);
            due("stopped for " + n, x.positionOf(0), 2);
            x.advance(1);
            due("after " + n, x.positionOf(0), 3);
        }
        BaggageLoop none = at(around(10, 0), 4);
        none.stopLoop(0);
        none.advance(1);
        due("stopped for 0", none.positionOf(0), 3);
        BaggageLoop entry = at(around(10, 0), 12);
        due("at ENTRY", entry.positionOf(0) * 10 + entry.lapsOf(0), 1);
        entry.stopLoop(3);
        entry.advance(3);
        due("no laps while it stands at ENTRY", entry.lapsOf(0), 1);
        // The other steps go on: a bag is loaded, becomes short, is stored where it stands.
        String stands = "loop 10 0 5" + QUICK + ";flight 2 OPEN CLOSE;lane 3 1;bags 1 1 0";
        BaggageLoop loaded = at(stands.replace("OPEN", "9").replace("CLOSE", "99").replace("lane 3", "lane 7"), 4);
        loaded.stopLoop(99);
        loaded.advance(4);
        due("not loaded before OPEN", loaded.stateOf(0), 8);
        due("loaded where it stands", loaded.advance(1), 1);
        BaggageLoop late = at(stands.replace("OPEN", "0").replace("CLOSE", "20").replace("flight 2", "flight 8"), 7);
        due("at PROBLEM", late.positionOf(0), 5);
        late.stopLoop(99);
        late.advance(12);
        due("not short before CLOSE", late.stateOf(0), 8);
        late.advance(1);
        due("short where it stands", late.stateOf(0), 11);
        BaggageLoop blocked = at(stands.replace("OPEN", "900").replace("CLOSE", "999"), 4);
        blocked.block(0, true);
        blocked.advance(1);
        blocked.stopLoop(9);
        blocked.advance(1);
        due("not stored", blocked.stateOf(0), 8);
        blocked.block(0, false);
        blocked.advance(1);
        due("stored where it stands", blocked.stateOf(0), 9);
    }

    private static void shifts() {
        says("A shift line tells that in the ticks at the times FROM to UNTIL those machines of LEVEL whose numbers are "
                + "COUNT or greater are treated like broken ones.");
        // Four machines, of which each takes a bag of its own at 6.
        String four = "loop 40 0 39 level 4 1 0 level 4 1 0 level 4 1 0 hot 0 seed 0;flight 9 900 999;bags 6 4 0";
        for (int count = 0; count <= 3; count++) {
            for (int[] span : new int[][] {{6, 6}, {0, 6}, {6, 1999}, {5, 7}}) {
                BaggageLoop x = at(four + ";shift 1 " + count + " " + span[0] + " " + span[1], 6);
                for (int machine = 0; machine < 4; machine++) {
                    due("machine " + machine + " in " + span[0] + " to " + span[1], x.machineAt(1, machine),
                            machine < count ? machine : -1);
                }
            }
            for (String span : new String[] {"0 5", "5 5", "7 7", "7 1999"}) {
                due("not in " + span, at(four + ";shift 1 " + count + " " + span, 6).machineAt(1, 3), 3);
            }
            due("another level", at(four + ";shift 2 " + count + " 0 1999", 6).machineAt(1, 3), 3);
        }
        // In (e), too: the bag is in the machine of a level at the time k and would leave it at k + 1.
        for (int level = 1; level <= 3; level++) {
            String one = "loop 10 0 5" + levels(level, "1 1 0") + " hot 0 seed 0;flight 9 900 999;bags 1 1 0;shift " + level;
            int out = level + 1;
            states("level " + level + " UNTIL", one + " 0 " + out + " " + (out + 1), out + 1, 2 * level, out + 2, 8);
            states("level " + level + " FROM", one + " 0 " + (out + 1) + " 1999", out - 1, 2 * level, out, 8);
            states("level " + level + " COUNT", one + " 1 0 1999", out, 8);
        }
        states("the last UNTIL", four.replace("bags 6", "bags 999") + ";shift 1 0 999 1999", 1999, 1, 2000, 2);
        states("two lines", four + ";shift 1 0 0 7;shift 1 0 8 9", 9, 1, 10, 2);
        states("lines of several counts", four + ";shift 1 3 0 20;shift 1 0 0 9", 9, 1, 10, 2);
        states("four lines", four + ";shift 1 3 0 20;shift 2 0 0 20;shift 3 0 0 20;shift 1 0 0 9", 9, 1, 10, 2);
        due("brokenUntil tells of breakMachine alone", at(four + ";shift 1 0 0 9", 8).brokenUntil(1, 0), 0);
    }

    // ---- keep lines

    /** Whether a test holds for bag 0 at a time. */
    private static boolean kept(String text, int time, String test) {
        return at(text + ";keep " + test, time).isKept(0);
    }

    /** A value is neither less nor greater than itself, less than the next number, greater than the one before. */
    private static void value(String text, int time, String name, int value) {
        String what = name + " at " + time;
        due(what + " < " + value, kept(text, time, name + "<" + value), false);
        due(what + " > " + value, kept(text, time, name + ">" + value), false);
        due(what + " = " + value, kept(text, time, name + "=" + value), true);
        due(what + " < " + (value + 1), kept(text, time, name + "<" + (value + 1)), true);
        due(what + " = " + (value + 1), kept(text, time, name + "=" + (value + 1)), false);
        due(what + " > " + (value + 1), kept(text, time, name + ">" + (value + 1)), false);
        if (value > 0) {
            due(what + " > " + (value - 1), kept(text, time, name + ">" + (value - 1)), true);
            due(what + " = " + (value - 1), kept(text, time, name + "=" + (value - 1)), false);
            due(what + " < " + (value - 1), kept(text, time, name + "<" + (value - 1)), false);
        }
    }

    private static void keepLines() {
        // At ENTRY at 2, in the lane at 4 unless a keep line holds, at the flight at 9.
        String one = "loop 10 0 5" + QUICK + ";flight 7 30 99;lane 2 5;bags 1 1 0";
        says("A keep line is a test about a bag.");
        String ofTwo = "loop 10 0 5" + QUICK + ";flight 7 30 99;flight 8 31 99;lane 2 5;bags 1 1 0;bags 2 1 1;keep wait=26";
        due("it holds for bag 0 at 4", at(ofTwo, 4).isKept(0), true);
        due("and not for bag 1", at(ofTwo, 4).isKept(1), false);
        due("bag 0 goes on", at(ofTwo, 4).stateOf(0), 8);
        due("bag 1 at 5", at(ofTwo, 5).isKept(1), true);

        for (int lines = 1; lines <= 3; lines++) {
            for (int holds = 0; holds <= lines; holds++) {
                StringBuilder text = new StringBuilder(one);
                for (int line = 1; line <= lines; line++) {
                    text.append(line == holds ? ";keep time=4" : ";keep time=5 and load<99");
                }
                due("line " + holds + " of " + lines + " holds", at(text.toString(), 4).isKept(0), holds > 0);
                due("line " + holds + " of " + lines + " keeps it", at(text.toString(), 4).stateOf(0), holds > 0 ? 8 : 9);
            }
        }

        says("In a test, wait is OPEN of its flight minus the time, but at least 0;");
        value(one, 0, "wait", 30);
        value(one, 29, "wait", 1);
        value(one, 30, "wait", 0);
        value(one, 31, "wait", 0);
        value(one, 500, "wait", 0);
        BaggageLoop far = Check.loaded(one.replace("30 99", "999 1000") + ";keep wait>9998;keep wait<9;keep time=1");
        for (int i = 0; i < 9; i++) {
            far.delay(0, 999);
        }
        due("9990", far.isKept(0), false);
        far.delay(0, 8);
        due("9998", far.isKept(0), false);
        far.delay(0, 1);
        due("9999", far.isKept(0), true);

        says("laps is its number of laps;");
        // Without the lane it goes round: at ENTRY again at 12 and 22.
        String round = one.replace(";lane 2 5", "").replace("30 99", "900 999");
        int[][] laps = {{0, 0}, {2, 0}, {11, 0}, {12, 1}, {21, 1}, {22, 2}};
        for (int[] l : laps) {
            value(round, l[0], "laps", l[1]);
        }

        says("level is the highest screening level that it has begun;");
        String levels = "loop 10 0 5 level 1 1 1000 level 1 1 1000 level 1 1 1000 hot 0 seed 0;flight 7 30 99;bags 2 1 0"
                + ";shift 1 0 2 3;shift 2 0 5 6;shift 3 0 8 9";
        int[] begun = {0, 0, 0, 0, 1, 1, 1, 2, 2, 2, 3, 3, 3};
        for (int time = 0; time < begun.length; time++) {
            value(levels, time, "level", begun[time]);
        }

        says("load is the number of bags on the loop (itself included, if it is there);");
        String many = round.replace("bags 1 1 0", "bags 1 3 0").replace("level 1 1 0 level 1 1 0 level", "level 4 1 0 level 1 1 0 level");
        int[][] loads = {{0, 0}, {1, 0}, {2, 1}, {3, 2}, {4, 3}, {30, 3}};
        for (int[] l : loads) {
            value(many, l[0], "load", l[1]);
        }
        due("it is not there", at(many + ";keep load=1", 2).isKept(2), true);
        String full = "loop 40 0 39" + WIDE + ";flight 9 900 999;bags 1 50 0";
        value(full, 60, "load", 40);

        says("time is the time now.");
        for (int time : new int[] {0, 1, 2, 999}) {
            value(one, time, "time", time);
        }
        due("9998 is less than 9999", kept(one, 9998, "time<9999"), true);
        due("9999 is not", kept(one, 9999, "time<9999"), false);
        due("9999 is 9999", kept(one, 9999, "time=9999"), true);
        due("9999 is greater than 9998", kept(one, 9999, "time>9998"), true);

        says("and and or are evaluated from left to right, with the same rank.");
        ranks(one);
        says("Bags that are short, rejected, loaded or offloaded stay so.");
        stayFinished();
    }

    private static void ranks(String text) {
        for (int bits = 0; bits < 64; bits++) {
            boolean a = (bits & 1) != 0;
            boolean b = (bits & 2) != 0;
            boolean c = (bits & 4) != 0;
            boolean firstAnd = (bits & 8) != 0;
            boolean secondAnd = (bits & 16) != 0;
            boolean brackets = (bits & 32) != 0;
            String test = unit(a) + (firstAnd ? " and " : " or ") + (brackets ? "(" : "") + unit(b)
                    + (secondAnd ? " and " : " or ") + unit(c) + (brackets ? ")" : "");
            boolean left = firstAnd ? a && b : a || b;
            boolean right = secondAnd ? b && c : b || c;
            boolean want = brackets ? (firstAnd ? a && right : a || right) : secondAnd ? left && c : left || c;
            due(test, kept(text, 0, test), want);
            // A not is a part of the unit behind it.
            boolean notLeft = firstAnd ? !a && b : !a || b;
            boolean wantNot = brackets ? (firstAnd ? !a && right : !a || right) : secondAnd ? notLeft && c : notLeft || c;
            due("not " + test, kept(text, 0, "not " + test), wantNot);
            due("not (" + test + ")", kept(text, 0, "not (" + test + ")"), !want);
        }
        for (int nots = 0; nots <= 9; nots++) {
            due(nots + " nots", kept(text, 0, "not ".repeat(nots) + "time=0"), nots % 2 == 0);
            due(nots + " brackets", kept(text, 0, "(".repeat(nots) + "time=0" + ")".repeat(nots)), true);
            // Each bracket holds an open answer back: time=0 and (time=0 and (.. or time=1 ..)).
            due(nots + " open answers", kept(text, 0, "time=0 and (".repeat(nots) + "time=1 or time=0" + ")".repeat(nots)), true);
            due(nots + " open answers", kept(text, 0, "time=1 or (".repeat(nots) + "time=1" + ")".repeat(nots)), false);
        }
    }

    private static String unit(boolean holds) {
        return holds ? "time=0" : "time>0";
    }

    private static void stayFinished() {
        String[] texts = {
            "loop 10 0 5" + QUICK + ";flight 7 0 1;bags 1 1 0",
            "loop 10 0 5 level 1 1 1000 level 1 1 1000 level 1 1 1000 hot 0 seed 0;flight 7 0 99;bags 1 1 0",
            "loop 10 0 5" + QUICK + ";flight 7 0 99;bags 1 1 0",
            "loop 10 0 5" + QUICK + ";flight 7 0 99;bags 1 1 0",
        };
        int[] wanted = {11, 12, 10, 13};
        for (int i = 0; i < texts.length; i++) {
            BaggageLoop x = at(texts[i], 20);
            if (wanted[i] == 13) {
                x.offload(0);
            }
            int finished = x.finishedAt(0);
            x.addBags(1, 3, 0);
            x.advance(500);
            due("state", x.stateOf(0), wanted[i]);
            due("since", x.finishedAt(0), finished);
            due("off the loop", x.positionOf(0), -1);
        }
    }

    // ---- 5. Events

    private static void events() {
        spec.of("5");
        says("Each time a bag comes into one of the states 9 to 13 is an event, in the order in which they occur.");
        String way = "loop 10 0 5 level 1 1 0 level 1 1 0 level 1 1 0 hot 0 seed 0;flight 3 20 30;lane 2 1;bags 1 1 0";
        int[][] counts = {{0, 0}, {1, 0}, {2, 0}, {3, 0}, {4, 1}, {19, 1}, {20, 1}, {21, 2}, {22, 2}};
        for (int[] c : counts) {
            due("events at " + c[0], at(way, c[0]).events(), c[1]);
        }
        BaggageLoop x = at(way, 25);
        x.offload(0);
        int[][] want = {{4, 9}, {21, 10}, {25, 13}};
        for (int i = 0; i < want.length; i++) {
            due("the time of event " + i, x.event(i, 0), want[i][0]);
            due("the state of event " + i, x.event(i, 1), want[i][1]);
        }
        due("short", at("loop 10 0 5" + QUICK + ";flight 7 0 1;bags 1 1 0", 7).event(0, 1), 11);
        due("rejected", at("loop 10 0 5 level 1 1 1000 level 1 1 1000 level 1 1 1000 hot 0 seed 0;flight 7 0 99"
                + ";bags 1 1 0", 4).event(0, 1), 12);

        says("The first 300 are kept.");
        // 80 bags are stored and loaded, one of them is stored twice, 20 more are stored and loaded.
        String many = "loop 10 0 9" + WIDE + ";flight 8 400 1999;flight 7 500 1999;lane 2 20;lane 3 20;lane 4 20;lane 5 20"
                + ";bags 0 80 0;bags 410 20 1";
        BaggageLoop log = at(many, 400);
        log.reroute(log.bagAt(2), 1);
        log.advance(301);
        due("events before the offloads", log.events(), 201);
        for (int bag = 0; bag < 98; bag++) {
            log.offload(bag);
        }
        due("one is missing", log.events(), 299);
        spec.fails("no event 299", IOOBE, () -> log.event(299, 0));
        log.offload(98);
        due("full", log.events(), 300);
        due("the last one", log.event(299, 2), 98);
        log.offload(99);
        due("the first 300", log.events(), 300);
        due("the last one stays", log.event(299, 2), 98);
        due("the first one stays", log.event(0, 1), 9);
        spec.fails("no event 300", IOOBE, () -> log.event(300, 0));
        log.undo();
        due("undone", log.events(), 300);
        log.undo();
        due("undone", log.events(), 299);
        log.offload(99);
        due("another event 299", log.event(299, 2), 99);
    }
}
