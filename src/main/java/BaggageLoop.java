import java.util.Arrays;

/** A simulator of the baggage system of an airport. DOC.md tells what each call promises. */
public final class BaggageLoop {
    /** The value for "none". */
    public static final int NONE = -1;

    private static final int MAX_BYTES = 1200;
    private static final int BYTES_OF_APPEND = 20;
    private static final int MAX_LENGTH = 40;
    private static final int LEVELS = 3;
    private static final int MAX_MACHINES = 4;
    private static final int MAX_FLIGHTS = 8;
    private static final int MAX_LANES = 4;
    private static final int MAX_CAPACITY = 20;
    private static final int MAX_BAGS = 100;
    private static final int MAX_SHIFTS = 4;
    private static final int MAX_KEEPS = 3;
    private static final int MAX_EVENTS = 300;
    private static final int MAX_UNDO = 6;
    private static final int MAX_TIME = 9999;
    private static final int MAX_TICKS = 500;
    private static final int MAX_TICKS_OF_BEST_DELAY = 200;
    private static final int QUEUES = 4;

    private static final int STATES = 14;
    private static final int NOT_ARRIVED = 0;
    private static final int WAITS_FOR_LOOP = 7;
    private static final int ON_LOOP = 8;
    private static final int STORED = 9;
    private static final int LOADED = 10;
    private static final int SHORT = 11;
    private static final int REJECTED = 12;
    private static final int OFFLOADED = 13;

    private static final int FLIGHT_NOT_OPEN = 0;
    private static final int FLIGHT_OPEN = 1;
    private static final int FLIGHT_CLOSED = 2;

    private final Parser parser = new Parser();
    private boolean hasAirport = false;
    private Plan plan = new Plan();
    private Plan sparePlan = new Plan();
    private State now = new State();
    // What-if questions and the parser work here, so that a question or a failed load leaves "now" alone.
    private State scratch = new State();
    private final History history = new History();
    private final State slot0 = new State();
    private final State slot1 = new State();
    private boolean slot0Used = false;
    private boolean slot1Used = false;
    private final Text reportText = new Text(200);
    private final Text mapText = new Text(MAX_LENGTH);
    private final Text timetableText = new Text(400);

    public BaggageLoop() {
    }

    // ---- input

    public int append(int a, int b, int c, int d, int e) {
        if (parser.size + BYTES_OF_APPEND > MAX_BYTES) {
            return NONE;
        }
        parser.addInt(a);
        parser.addInt(b);
        parser.addInt(c);
        parser.addInt(d);
        parser.addInt(e);
        return parser.size;
    }

    public int load(int n) throws IndexOutOfBoundsException, IllegalArgumentException {
        if (n < 0 || n > parser.size) {
            throw new IndexOutOfBoundsException("n is not 0 to the number of bytes in the buffer");
        }
        parser.size = 0;
        parser.parse(n, sparePlan, scratch);
        useWhatWasParsed();
        return now.bags.count;
    }

    public int parseError() {
        return parser.error;
    }

    public int errorPosition() {
        return parser.errorAt;
    }

    public int buffered() {
        return parser.size;
    }

    // ---- bags

    public int time() {
        return now.clock;
    }

    public int bags() {
        return now.bags.count;
    }

    public int stateOf(int bag) throws IllegalStateException, IndexOutOfBoundsException {
        needBag(bag);
        return at(now.bags.state, bag);
    }

    public int flightOf(int bag) throws IllegalStateException, IndexOutOfBoundsException {
        needBag(bag);
        return at(now.bags.flight, bag);
    }

    public int arrivalOf(int bag) throws IllegalStateException, IndexOutOfBoundsException {
        needBag(bag);
        return at(now.bags.arrival, bag);
    }

    public int positionOf(int bag) throws IllegalStateException, IndexOutOfBoundsException {
        needBag(bag);
        return now.placeOnLoop(bag);
    }

    public int lapsOf(int bag) throws IllegalStateException, IndexOutOfBoundsException {
        needBag(bag);
        return at(now.bags.laps, bag);
    }

    public int levelOf(int bag) throws IllegalStateException, IndexOutOfBoundsException {
        needBag(bag);
        return at(now.bags.level, bag);
    }

    public int laneOf(int bag) throws IllegalStateException, IndexOutOfBoundsException {
        needBag(bag);
        return now.laneWith(bag);
    }

    public int ticksTo(int bag) throws IllegalStateException, IndexOutOfBoundsException {
        needBag(bag);
        int place = now.placeOnLoop(bag);
        if (place == NONE) {
            return NONE;
        }
        int way = at(plan.flightPosition, at(now.bags.flight, bag)) - place;
        return way < 0 ? way + plan.length : way;
    }

    public int finishedAt(int bag) throws IllegalStateException, IndexOutOfBoundsException {
        needBag(bag);
        return isFinished(at(now.bags.state, bag)) ? at(now.bags.finished, bag) : NONE;
    }

    public boolean isHot(int bag) throws IllegalStateException, IndexOutOfBoundsException {
        needBag(bag);
        return at(now.close, at(now.bags.flight, bag)) - now.clock <= now.hot;
    }

    public boolean isKept(int bag) throws IllegalStateException, IndexOutOfBoundsException {
        needBag(bag);
        return Ticks.isHeldBack(plan, now, bag);
    }

    // ---- the loop, the queues and the lanes

    public int bagAt(int position) throws IllegalStateException, IndexOutOfBoundsException {
        needAirport();
        needIndex(position, plan.length);
        return at(now.loop, position);
    }

    public int loopLoad() {
        return at(now.bags.counts, ON_LOOP);
    }

    public int waiting(int queue) throws IllegalStateException, IllegalArgumentException {
        needAirport();
        needRange(queue, 1, QUEUES);
        return at(now.bags.counts, waitState(queue));
    }

    public int queueAt(int queue, int place) throws IllegalStateException, IndexOutOfBoundsException {
        needAirport();
        needIndex(queue - 1, QUEUES);
        needIndex(place, at(now.bags.counts, waitState(queue)));
        return now.inQueue(waitState(queue), place);
    }

    public int machineAt(int level, int machine) throws IllegalStateException, IndexOutOfBoundsException {
        needMachine(level, machine);
        return at(now.machineBag, machineIndex(level, machine));
    }

    public int brokenUntil(int level, int machine) throws IllegalStateException, IndexOutOfBoundsException {
        needMachine(level, machine);
        return at(now.broken, machineIndex(level, machine));
    }

    public int stoppedUntil() {
        return now.stopped;
    }

    public int lanes() {
        return plan.lanes;
    }

    public int laneSize(int lane) throws IllegalStateException, IndexOutOfBoundsException {
        needLane(lane);
        return at(now.laneSize, lane);
    }

    public int laneAt(int lane, int place) throws IllegalStateException, IndexOutOfBoundsException {
        needLane(lane);
        needIndex(place, at(now.laneSize, lane));
        return at(now.laneBags, lane * MAX_CAPACITY + place);
    }

    public int keeps() {
        return plan.tests.count;
    }

    // ---- flights

    public int flights() {
        return plan.flights;
    }

    public int flightState(int flight) throws IllegalStateException, IndexOutOfBoundsException {
        needFlight(flight);
        return now.phase(flight);
    }

    public int openOf(int flight) throws IllegalStateException, IndexOutOfBoundsException {
        needFlight(flight);
        return at(now.open, flight);
    }

    public int closeOf(int flight) throws IllegalStateException, IndexOutOfBoundsException {
        needFlight(flight);
        return at(now.close, flight);
    }

    public int countOf(int flight, int state)
            throws IllegalStateException, IndexOutOfBoundsException, IllegalArgumentException {
        needFlight(flight);
        needRange(state, NOT_ARRIVED, OFFLOADED);
        return now.bags.ofFlight(flight, state, state);
    }

    public int missing(int flight) throws IllegalStateException, IndexOutOfBoundsException {
        needFlight(flight);
        return missingOf(flight);
    }

    public float loadedShare(int flight) throws IllegalStateException, IndexOutOfBoundsException {
        needFlight(flight);
        int all = now.bags.ofFlight(flight, NOT_ARRIVED, OFFLOADED);
        return all == 0 ? 0.0f : (float) loadedOf(flight) / (float) all;
    }

    public int percentile(int flight, int percent)
            throws IllegalStateException, IndexOutOfBoundsException, IllegalArgumentException {
        needFlight(flight);
        needRange(percent, 1, 100);
        return now.bags.loadingTime(flight, (percent * loadedOf(flight) + 99) / 100);
    }

    public int worstFlight(int rank) throws IllegalStateException, IndexOutOfBoundsException {
        needFlight(rank);
        for (int flight = 0; flight < plan.flights; flight++) {
            if (worseFlights(flight) == rank) {
                return flight;
            }
        }
        return NONE;
    }

    // ---- the log and the report

    public int events() {
        return now.eventCount;
    }

    public int event(int number, int what)
            throws IllegalStateException, IndexOutOfBoundsException, IllegalArgumentException {
        needAirport();
        needIndex(number, now.eventCount);
        needRange(what, 0, 3);
        return now.eventPart(number, what);
    }

    public int report() throws IllegalStateException {
        needAirport();
        reportText.size = 0;
        for (int flight = 0; flight < plan.flights; flight++) {
            reportText.separate(flight);
            reportText.putNumber(loadedOf(flight));
            reportText.putByte('/');
            reportText.putNumber(now.bags.ofFlight(flight, NOT_ARRIVED, OFFLOADED));
            if (shortOf(flight) > 0) {
                reportText.putByte('-');
                reportText.putNumber(shortOf(flight));
            }
        }
        return reportText.size;
    }

    public int reportByte(int i) throws IndexOutOfBoundsException {
        needIndex(i, reportText.size);
        return reportText.byteAt(i);
    }

    // ---- what-if questions

    public int map() throws IllegalStateException {
        needAirport();
        mapText.size = 0;
        for (int position = 0; position < plan.length; position++) {
            int bag = at(now.loop, position);
            mapText.putByte(bag == NONE ? '.' : 'A' + at(now.bags.flight, bag));
        }
        return mapText.size;
    }

    public int mapByte(int i) throws IndexOutOfBoundsException {
        needIndex(i, mapText.size);
        return mapText.byteAt(i);
    }

    public int timetable() throws IllegalStateException {
        needAirport();
        timetableText.size = 0;
        for (int rank = 0; rank < plan.flights; rank++) {
            timetableText.separate(rank);
            writeTimes(flightByClose(rank));
        }
        return timetableText.size;
    }

    public int timetableByte(int i) throws IndexOutOfBoundsException {
        needIndex(i, timetableText.size);
        return timetableText.byteAt(i);
    }

    public int loadedIn(int n) throws IllegalStateException, IllegalArgumentException {
        needAirport();
        needTicks(n, MAX_TICKS);
        scratch.copyFrom(now);
        return Ticks.run(plan, scratch, n, LOADED);
    }

    public int shortIn(int n) throws IllegalStateException, IllegalArgumentException {
        needAirport();
        needTicks(n, MAX_TICKS);
        scratch.copyFrom(now);
        return Ticks.run(plan, scratch, n, SHORT);
    }

    public int timeToClear(int n) throws IllegalStateException, IllegalArgumentException {
        needAirport();
        needTicks(n, MAX_TICKS);
        scratch.copyFrom(now);
        for (int ticks = 0; ticks < n; ticks++) {
            if (scratch.bags.allFinished()) {
                return ticks;
            }
            Ticks.tick(plan, scratch);
        }
        return scratch.bags.allFinished() ? n : NONE;
    }

    public int bestDelay(int flight, int n)
            throws IllegalStateException, IndexOutOfBoundsException, IllegalArgumentException {
        needFlight(flight);
        needTicks(n, MAX_TICKS_OF_BEST_DELAY);
        needNotClosed(flight);
        int best = 0;
        int fewest = MAX_BAGS + 1;
        for (int by = 0; by <= 50; by += 5) {
            scratch.copyFrom(now);
            scratch.delayFlight(flight, by);
            int shorts = Ticks.run(plan, scratch, n, SHORT);
            if (shorts < fewest) {
                fewest = shorts;
                best = by;
            }
        }
        return best;
    }

    public int withoutLane(int lane, int n)
            throws IllegalStateException, IndexOutOfBoundsException, IllegalArgumentException {
        needLane(lane);
        needTicks(n, MAX_TICKS);
        scratch.copyFrom(now);
        put(scratch.blocked, lane, 1);
        return Ticks.run(plan, scratch, n, LOADED);
    }

    // ---- changes

    public int advance(int n) throws IllegalStateException, IllegalArgumentException {
        needAirport();
        needTicks(n, MAX_TICKS);
        history.remember(now);
        return Ticks.run(plan, now, n, LOADED);
    }

    public int addBags(int delay, int count, int flight)
            throws IllegalStateException, IndexOutOfBoundsException, IllegalArgumentException {
        needFlight(flight);
        needRange(delay, 1, 999);
        needRange(count, 1, MAX_BAGS - now.bags.count);
        history.remember(now);
        int first = now.bags.count;
        now.bags.addGroup(now.clock + delay, count, flight);
        return first;
    }

    public int delay(int flight, int by)
            throws IllegalStateException, IndexOutOfBoundsException, IllegalArgumentException {
        needFlight(flight);
        needRange(by, 1, 999);
        needNotClosed(flight);
        history.remember(now);
        now.delayFlight(flight, by);
        return at(now.close, flight);
    }

    public int offload(int bag)
            throws IllegalStateException, IndexOutOfBoundsException, IllegalArgumentException {
        needBag(bag);
        if (at(now.bags.state, bag) != LOADED) {
            throw new IllegalArgumentException("the bag is not loaded");
        }
        history.remember(now);
        now.enter(bag, OFFLOADED);
        return loadedOf(at(now.bags.flight, bag));
    }

    public boolean block(int lane, boolean blocked) throws IllegalStateException, IndexOutOfBoundsException {
        needLane(lane);
        history.remember(now);
        boolean before = at(now.blocked, lane) == 1;
        put(now.blocked, lane, blocked ? 1 : 0);
        return before;
    }

    public int setHot(int hot) throws IllegalStateException, IllegalArgumentException {
        needAirport();
        needRange(hot, 0, 999);
        history.remember(now);
        int before = now.hot;
        now.hot = hot;
        return before;
    }

    public boolean breakMachine(int level, int machine, int n)
            throws IllegalStateException, IndexOutOfBoundsException, IllegalArgumentException {
        needMachine(level, machine);
        needRange(n, 1, 999);
        history.remember(now);
        int index = machineIndex(level, machine);
        int until = now.clock + n;
        if (until <= at(now.broken, index)) {
            return false;
        }
        put(now.broken, index, until);
        return true;
    }

    public int stopLoop(int n) throws IllegalStateException, IllegalArgumentException {
        needAirport();
        needRange(n, 0, 999);
        history.remember(now);
        now.stopped = now.clock + n;
        return now.stopped;
    }

    public int reroute(int bag, int flight)
            throws IllegalStateException, IndexOutOfBoundsException, IllegalArgumentException {
        needBag(bag);
        needFlight(flight);
        if (isFinished(at(now.bags.state, bag))) {
            throw new IllegalArgumentException("the bag is in one of the states 10 to 13");
        }
        history.remember(now);
        int before = at(now.bags.flight, bag);
        put(now.bags.flight, bag, flight);
        return before;
    }

    public int undo() throws IllegalStateException {
        if (history.size == 0) {
            throw new IllegalStateException("there is no change to undo");
        }
        history.bringBack(now);
        return history.size;
    }

    public int undoable() {
        return history.size;
    }

    public int save(int slot) throws IllegalStateException, IndexOutOfBoundsException {
        needAirport();
        needIndex(slot, 2);
        if (slot == 0) {
            slot0.copyFrom(now);
            slot0Used = true;
        } else {
            slot1.copyFrom(now);
            slot1Used = true;
        }
        return now.clock;
    }

    public int restore(int slot) throws IndexOutOfBoundsException, IllegalStateException {
        needIndex(slot, 2);
        if (slot == 0 ? !slot0Used : !slot1Used) {
            throw new IllegalStateException("nothing is saved in the slot");
        }
        now.copyFrom(slot == 0 ? slot0 : slot1);
        history.size = 0;
        return now.clock;
    }

    // ---- what several calls share

    private void useWhatWasParsed() {
        Plan oldPlan = plan;
        plan = sparePlan;
        sparePlan = oldPlan;
        State oldState = now;
        now = scratch;
        scratch = oldState;
        history.size = 0;
        slot0Used = false;
        slot1Used = false;
        hasAirport = true;
    }

    private void needAirport() {
        if (!hasAirport) {
            throw new IllegalStateException("there is no airport");
        }
    }

    private void needBag(int bag) {
        needAirport();
        needIndex(bag, now.bags.count);
    }

    private void needFlight(int flight) {
        needAirport();
        needIndex(flight, plan.flights);
    }

    private void needLane(int lane) {
        needAirport();
        needIndex(lane, plan.lanes);
    }

    private void needMachine(int level, int machine) {
        needAirport();
        needIndex(level - 1, LEVELS);
        needIndex(machine, at(plan.machines, level - 1));
    }

    private void needTicks(int n, int most) {
        needRange(n, 1, most);
        if (now.clock + n > MAX_TIME) {
            throw new IllegalArgumentException("the time would be greater than 9999");
        }
    }

    private void needNotClosed(int flight) {
        if (now.phase(flight) == FLIGHT_CLOSED) {
            throw new IllegalArgumentException("the flight is closed");
        }
    }

    private static void needIndex(int index, int size) {
        if (index < 0 || index >= size) {
            throw new IndexOutOfBoundsException("there is no such number");
        }
    }

    private static void needRange(int value, int low, int high) {
        if (value < low || value > high) {
            throw new IllegalArgumentException("an argument is out of range");
        }
    }

    private int loadedOf(int flight) {
        return now.bags.ofFlight(flight, LOADED, LOADED);
    }

    private int shortOf(int flight) {
        return now.bags.ofFlight(flight, SHORT, SHORT);
    }

    private int missingOf(int flight) {
        return now.bags.ofFlight(flight, NOT_ARRIVED, STORED);
    }

    private int worseFlights(int flight) {
        int worse = 0;
        for (int other = 0; other < plan.flights; other++) {
            int more = shortOf(other) - shortOf(flight);
            if (more == 0) {
                more = missingOf(other) - missingOf(flight);
            }
            if (more > 0 || more == 0 && other < flight) {
                worse++;
            }
        }
        return worse;
    }

    private int flightByClose(int rank) {
        for (int flight = 0; flight < plan.flights; flight++) {
            int before = 0;
            for (int other = 0; other < plan.flights; other++) {
                int later = at(now.close, other) - at(now.close, flight);
                if (later < 0 || later == 0 && other < flight) {
                    before++;
                }
            }
            if (before == rank) {
                return flight;
            }
        }
        return NONE;
    }

    private void writeTimes(int flight) {
        timetableText.putByte('A' + flight);
        timetableText.putNumber(at(now.open, flight));
        timetableText.putByte('-');
        timetableText.putNumber(at(now.close, flight));
        for (int lane = 0; lane < plan.lanes; lane++) {
            int stored = now.storedOf(lane, flight);
            if (stored > 0) {
                timetableText.putByte(',');
                timetableText.putNumber(lane);
                timetableText.putByte('x');
                timetableText.putNumber(stored);
            }
        }
    }

    private static boolean isFinished(int state) {
        return state >= LOADED;
    }

    /** The state of the bags in a queue: 1, 3 and 5 for the levels 1 to 3, 7 for the loop. */
    private static int waitState(int queue) {
        return 2 * queue - 1;
    }

    private static int machineIndex(int level, int machine) {
        return (level - 1) * MAX_MACHINES + machine;
    }

    /** Every index that comes out of other data goes through at and put, so that none can be out of range. */
    private static int at(int[] row, int index) {
        return index >= 0 && index < row.length ? row[index] : NONE;
    }

    private static void put(int[] row, int index, int value) {
        if (index >= 0 && index < row.length) {
            row[index] = value;
        }
    }

    private static void copy(int[] from, int[] to) {
        System.arraycopy(from, 0, to, 0, Math.min(from.length, to.length));
    }

    /** What the text tells and nothing alters later. */
    private static final class Plan {
        int length = 0;
        int entry = 0;
        int problem = 0;
        final int[] machines = new int[LEVELS];
        final int[] ticks = new int[LEVELS];
        final int[] alarm = new int[LEVELS];
        int flights = 0;
        final int[] flightPosition = new int[MAX_FLIGHTS];
        int lanes = 0;
        final int[] lanePosition = new int[MAX_LANES];
        final int[] capacity = new int[MAX_LANES];
        int shifts = 0;
        final int[] shiftLevel = new int[MAX_SHIFTS];
        final int[] shiftCount = new int[MAX_SHIFTS];
        final int[] shiftFrom = new int[MAX_SHIFTS];
        final int[] shiftUntil = new int[MAX_SHIFTS];
        final Tests tests = new Tests();

        void clear() {
            flights = 0;
            lanes = 0;
            shifts = 0;
            tests.count = 0;
            tests.size = 0;
        }

        int laneOn(int position) {
            for (int lane = 0; lane < lanes; lane++) {
                if (at(lanePosition, lane) == position) {
                    return lane;
                }
            }
            return NONE;
        }

        boolean isOffShift(int level, int machine, int clock) {
            for (int i = 0; i < shifts; i++) {
                if (at(shiftLevel, i) == level && machine >= at(shiftCount, i)
                        && clock >= at(shiftFrom, i) && clock <= at(shiftUntil, i)) {
                    return true;
                }
            }
            return false;
        }
    }

    /** The tests of the keep lines, one behind the other, each with its operators behind their operands. */
    private static final class Tests {
        // A comparison is value * 3 + relation; the operators come behind the greatest of these.
        static final int WAIT = 0;
        static final int LAPS = 1;
        static final int LEVEL = 2;
        static final int LOAD = 3;
        static final int TIME = 4;
        static final int VALUES = 5;
        static final int LESS = 0;
        static final int GREATER = 1;
        static final int EQUAL = 2;
        static final int NOT = 15;
        static final int AND = 16;
        static final int OR = 17;
        // Each part of a test takes at least two bytes of the text.
        static final int MAX_PARTS = MAX_BYTES / 2;

        int count = 0;
        int size = 0;
        final int[] end = new int[MAX_KEEPS];
        final int[] part = new int[MAX_PARTS];
        final int[] number = new int[MAX_PARTS];
        final int[] values = new int[VALUES];

        void addPart(int kind, int compared) {
            put(part, size, kind);
            put(number, size, compared);
            size++;
        }

        void endTest() {
            put(end, count, size);
            count++;
        }

        /** Tells whether a test holds for what stands in values. */
        boolean holds(int test) {
            int from = test == 0 ? 0 : at(end, test - 1);
            int to = at(end, test);
            // The answers that wait for an operator, as bits, the latest one last: nesting is at most ten deep.
            int answers = 0;
            for (int i = from; i < to; i++) {
                int kind = at(part, i);
                int latest = answers & 1;
                if (kind == NOT) {
                    answers = answers ^ 1;
                } else if (kind == AND) {
                    answers = (answers >> 1) & (latest | ~1);
                } else if (kind == OR) {
                    answers = (answers >> 1) | latest;
                } else {
                    answers = answers << 1 | compare(kind, at(number, i));
                }
            }
            return (answers & 1) == 1;
        }

        private int compare(int kind, int compared) {
            int index = kind / 3;
            int value = index >= 0 && index < values.length ? values[index] : 0;
            int relation = kind % 3;
            boolean answer = relation == LESS ? value < compared
                    : relation == GREATER ? value > compared : value == compared;
            return answer ? 1 : 0;
        }
    }

    /** The bags by their numbers. */
    private static final class Bags {
        int count = 0;
        final int[] state = new int[MAX_BAGS];
        final int[] flight = new int[MAX_BAGS];
        final int[] arrival = new int[MAX_BAGS];
        final int[] laps = new int[MAX_BAGS];
        final int[] level = new int[MAX_BAGS];
        final int[] finished = new int[MAX_BAGS];
        // How many bags are in each state: most ticks find most queues empty and need not look for bags.
        final int[] counts = new int[STATES];

        void clear() {
            count = 0;
            Arrays.fill(counts, 0);
        }

        void takeFrom(Bags other) {
            count = other.count;
            copy(other.state, state);
            copy(other.flight, flight);
            copy(other.arrival, arrival);
            copy(other.laps, laps);
            copy(other.level, level);
            copy(other.finished, finished);
            copy(other.counts, counts);
        }

        void addGroup(int time, int group, int toFlight) {
            for (int i = 0; i < group && count < MAX_BAGS; i++) {
                state[count] = NOT_ARRIVED;
                flight[count] = toFlight;
                arrival[count] = time;
                laps[count] = 0;
                level[count] = 0;
                finished[count] = NONE;
                count++;
                counts[NOT_ARRIVED]++;
            }
        }

        void change(int bag, int newState) {
            int old = at(state, bag);
            put(counts, old, at(counts, old) - 1);
            put(counts, newState, at(counts, newState) + 1);
            put(state, bag, newState);
        }

        boolean allFinished() {
            return counts[LOADED] + counts[SHORT] + counts[REJECTED] + counts[OFFLOADED] == count;
        }

        /** The number of bags of a flight in the states low to high. */
        int ofFlight(int ofFlight, int low, int high) {
            int found = 0;
            for (int bag = 0; bag < count; bag++) {
                if (at(flight, bag) == ofFlight && at(state, bag) >= low && at(state, bag) <= high) {
                    found++;
                }
            }
            return found;
        }

        /** The time from arrival to loading with a rank, from 1, among the loaded bags of a flight. */
        int loadingTime(int ofFlight, int rank) {
            for (int bag = 0; bag < count; bag++) {
                if (isLoaded(bag, ofFlight)) {
                    int time = at(finished, bag) - at(arrival, bag);
                    if (loadedWithin(ofFlight, time - 1) < rank && rank <= loadedWithin(ofFlight, time)) {
                        return time;
                    }
                }
            }
            return NONE;
        }

        private int loadedWithin(int ofFlight, int time) {
            int found = 0;
            for (int bag = 0; bag < count; bag++) {
                if (isLoaded(bag, ofFlight) && at(finished, bag) - at(arrival, bag) <= time) {
                    found++;
                }
            }
            return found;
        }

        private boolean isLoaded(int bag, int ofFlight) {
            return at(flight, bag) == ofFlight && at(state, bag) == LOADED;
        }
    }

    /** Everything that ticks and changes alter. */
    private static final class State {
        // An event is one number, which keeps the copies of a state small: time, state, bag, flight.
        static final int TIME_SHIFT = 14;
        static final int STATE_SHIFT = 10;
        static final int BAG_SHIFT = 3;

        int clock = 0;
        long draws = 0;
        int hot = 0;
        int stopped = 0;
        final Bags bags = new Bags();
        final int[] open = new int[MAX_FLIGHTS];
        final int[] close = new int[MAX_FLIGHTS];
        final int[] blocked = new int[MAX_LANES];
        final int[] laneSize = new int[MAX_LANES];
        final int[] laneBags = new int[MAX_LANES * MAX_CAPACITY];
        final int[] loop = new int[MAX_LENGTH];
        final int[] machineBag = new int[LEVELS * MAX_MACHINES];
        final int[] ticksLeft = new int[LEVELS * MAX_MACHINES];
        final int[] broken = new int[LEVELS * MAX_MACHINES];
        int eventCount = 0;
        final int[] eventLog = new int[MAX_EVENTS];

        void clear() {
            clock = 0;
            stopped = 0;
            bags.clear();
            Arrays.fill(blocked, 0);
            Arrays.fill(laneSize, 0);
            Arrays.fill(loop, NONE);
            Arrays.fill(machineBag, NONE);
            Arrays.fill(broken, 0);
            eventCount = 0;
        }

        void copyFrom(State other) {
            clock = other.clock;
            draws = other.draws;
            hot = other.hot;
            stopped = other.stopped;
            bags.takeFrom(other.bags);
            copy(other.open, open);
            copy(other.close, close);
            copy(other.blocked, blocked);
            copy(other.laneSize, laneSize);
            copy(other.laneBags, laneBags);
            copy(other.loop, loop);
            copy(other.machineBag, machineBag);
            copy(other.ticksLeft, ticksLeft);
            copy(other.broken, broken);
            eventCount = other.eventCount;
            copy(other.eventLog, eventLog);
        }

        int draw() {
            draws = (draws * 1103515245L + 12345L) & 0x7fffffffL;
            return (int) (draws / 65536 % 1000);
        }

        int phase(int flight) {
            if (clock < at(open, flight)) {
                return FLIGHT_NOT_OPEN;
            }
            return clock < at(close, flight) ? FLIGHT_OPEN : FLIGHT_CLOSED;
        }

        int phaseOfBag(int bag) {
            return phase(at(bags.flight, bag));
        }

        void delayFlight(int flight, int by) {
            if (phase(flight) == FLIGHT_NOT_OPEN) {
                put(open, flight, at(open, flight) + by);
            }
            put(close, flight, at(close, flight) + by);
        }

        /** Brings a bag into a state; all that depends on the state alone happens here. */
        void enter(int bag, int state) {
            bags.change(bag, state);
            if (isFinished(state)) {
                put(bags.finished, bag, clock);
            }
            if (state >= STORED && eventCount < MAX_EVENTS) {
                put(eventLog, eventCount, clock << TIME_SHIFT | state << STATE_SHIFT
                        | bag << BAG_SHIFT | at(bags.flight, bag));
                eventCount++;
            }
        }

        int eventPart(int number, int what) {
            int all = at(eventLog, number);
            switch (what) {
                case 0:
                    return all >> TIME_SHIFT;
                case 1:
                    return all >> STATE_SHIFT & 15;
                case 2:
                    return all >> BAG_SHIFT & 127;
                default:
                    return all & 7;
            }
        }

        int placeOnLoop(int bag) {
            for (int position = 0; position < loop.length; position++) {
                if (loop[position] == bag) {
                    return position;
                }
            }
            return NONE;
        }

        int laneWith(int bag) {
            for (int lane = 0; lane < MAX_LANES; lane++) {
                for (int place = 0; place < at(laneSize, lane); place++) {
                    if (at(laneBags, lane * MAX_CAPACITY + place) == bag) {
                        return lane;
                    }
                }
            }
            return NONE;
        }

        int storedOf(int lane, int flight) {
            int found = 0;
            for (int place = 0; place < at(laneSize, lane); place++) {
                if (at(bags.flight, at(laneBags, lane * MAX_CAPACITY + place)) == flight) {
                    found++;
                }
            }
            return found;
        }

        /** Whether a bag goes before another of its queue. Hot bags need no test: they have the smallest CLOSE. */
        boolean goesBefore(int bag, int other) {
            int later = at(close, at(bags.flight, other)) - at(close, at(bags.flight, bag));
            if (later == 0) {
                later = at(bags.arrival, other) - at(bags.arrival, bag);
            }
            return later > 0 || later == 0 && bag < other;
        }

        int firstOfQueue(int waitState) {
            int first = NONE;
            if (at(bags.counts, waitState) > 0) {
                for (int bag = 0; bag < bags.count; bag++) {
                    if (at(bags.state, bag) == waitState && (first == NONE || goesBefore(bag, first))) {
                        first = bag;
                    }
                }
            }
            return first;
        }

        int inQueue(int waitState, int place) {
            for (int bag = 0; bag < bags.count; bag++) {
                if (at(bags.state, bag) == waitState && placeInQueue(bag) == place) {
                    return bag;
                }
            }
            return NONE;
        }

        private int placeInQueue(int bag) {
            int before = 0;
            for (int other = 0; other < bags.count; other++) {
                if (at(bags.state, other) == at(bags.state, bag) && goesBefore(other, bag)) {
                    before++;
                }
            }
            return before;
        }
    }

    /** The steps of a tick. */
    private static final class Ticks {
        /** Simulates ticks and returns how many bags came into a state in them. */
        static int run(Plan plan, State s, int n, int state) {
            int before = at(s.bags.counts, state);
            for (int i = 0; i < n; i++) {
                tick(plan, s);
            }
            return at(s.bags.counts, state) - before;
        }

        static void tick(Plan plan, State s) {
            s.clock++;
            if (s.bags.allFinished()) {
                // Nothing is left to move, and the what-if questions often look far ahead.
                return;
            }
            admitArrivals(s);
            if (s.clock > s.stopped) {
                moveLoop(plan, s);
            }
            takeOffLoop(plan, s);
            emptyLanes(plan, s);
            for (int level = LEVELS; level >= 1; level--) {
                workMachines(plan, s, level);
            }
            for (int level = LEVELS; level >= 1; level--) {
                fillMachines(plan, s, level);
            }
            fillEntry(plan, s);
        }

        static void admitArrivals(State s) {
            if (at(s.bags.counts, NOT_ARRIVED) == 0) {
                return;
            }
            for (int bag = 0; bag < s.bags.count; bag++) {
                if (at(s.bags.state, bag) == NOT_ARRIVED && at(s.bags.arrival, bag) == s.clock) {
                    s.enter(bag, waitState(1));
                }
            }
        }

        private static void moveLoop(Plan plan, State s) {
            int length = plan.length;
            if (at(s.bags.counts, ON_LOOP) == 0 || length < 1 || length > s.loop.length) {
                return;
            }
            int last = s.loop[length - 1];
            for (int position = length - 1; position > 0; position--) {
                s.loop[position] = s.loop[position - 1];
            }
            s.loop[0] = last;
            int bag = at(s.loop, plan.entry);
            if (bag != NONE) {
                put(s.bags.laps, bag, at(s.bags.laps, bag) + 1);
            }
        }

        private static void takeOffLoop(Plan plan, State s) {
            for (int position = 0; position < plan.length && at(s.bags.counts, ON_LOOP) > 0; position++) {
                int bag = at(s.loop, position);
                int state = bag == NONE ? ON_LOOP : stateAfter(plan, s, position, bag);
                if (state != ON_LOOP) {
                    put(s.loop, position, NONE);
                    s.enter(bag, state);
                    if (state == STORED) {
                        addLast(s, plan.laneOn(position), bag);
                    }
                }
            }
        }

        /** The state of a bag at a position of the loop after step (c). */
        private static int stateAfter(Plan plan, State s, int position, int bag) {
            int phase = s.phaseOfBag(bag);
            if (phase == FLIGHT_OPEN) {
                return at(plan.flightPosition, at(s.bags.flight, bag)) == position ? LOADED : ON_LOOP;
            }
            if (phase == FLIGHT_CLOSED) {
                return position == plan.problem ? SHORT : ON_LOOP;
            }
            int lane = plan.laneOn(position);
            boolean stored = lane != NONE && laneTakes(plan, s, lane, bag) && !isHeldBack(plan, s, bag);
            return stored ? STORED : ON_LOOP;
        }

        private static boolean laneTakes(Plan plan, State s, int lane, int bag) {
            int size = at(s.laneSize, lane);
            if (at(s.blocked, lane) == 1 || size >= at(plan.capacity, lane)) {
                return false;
            }
            if (size == 0) {
                return true;
            }
            int last = at(s.laneBags, lane * MAX_CAPACITY + size - 1);
            return at(s.open, at(s.bags.flight, last)) <= at(s.open, at(s.bags.flight, bag));
        }

        private static void addLast(State s, int lane, int bag) {
            int size = at(s.laneSize, lane);
            put(s.laneBags, lane * MAX_CAPACITY + size, bag);
            put(s.laneSize, lane, size + 1);
        }

        /** Tells whether a keep line holds for a bag. */
        static boolean isHeldBack(Plan plan, State s, int bag) {
            Tests tests = plan.tests;
            if (tests.count == 0) {
                return false;
            }
            put(tests.values, Tests.WAIT, Math.max(0, at(s.open, at(s.bags.flight, bag)) - s.clock));
            put(tests.values, Tests.LAPS, at(s.bags.laps, bag));
            put(tests.values, Tests.LEVEL, at(s.bags.level, bag));
            put(tests.values, Tests.LOAD, at(s.bags.counts, ON_LOOP));
            put(tests.values, Tests.TIME, s.clock);
            for (int test = 0; test < tests.count; test++) {
                if (tests.holds(test)) {
                    return true;
                }
            }
            return false;
        }

        private static void emptyLanes(Plan plan, State s) {
            for (int lane = 0; lane < plan.lanes; lane++) {
                int position = at(plan.lanePosition, lane);
                if (at(s.laneSize, lane) > 0 && at(s.loop, position) == NONE) {
                    int first = at(s.laneBags, lane * MAX_CAPACITY);
                    if (s.phaseOfBag(first) != FLIGHT_NOT_OPEN) {
                        removeFirst(s, lane);
                        put(s.loop, position, first);
                        s.enter(first, ON_LOOP);
                    }
                }
            }
        }

        private static void removeFirst(State s, int lane) {
            int size = at(s.laneSize, lane);
            int start = lane * MAX_CAPACITY;
            for (int place = 1; place < size; place++) {
                put(s.laneBags, start + place - 1, at(s.laneBags, start + place));
            }
            put(s.laneSize, lane, size - 1);
        }

        private static void workMachines(Plan plan, State s, int level) {
            for (int machine = 0; machine < at(plan.machines, level - 1); machine++) {
                int index = machineIndex(level, machine);
                int bag = at(s.machineBag, index);
                if (bag != NONE && works(plan, s, level, machine)) {
                    int left = at(s.ticksLeft, index) - 1;
                    put(s.ticksLeft, index, left);
                    if (left == 0) {
                        put(s.machineBag, index, NONE);
                        s.enter(bag, s.draw() < at(plan.alarm, level - 1) ? afterAlarm(level) : WAITS_FOR_LOOP);
                    }
                }
            }
        }

        private static int afterAlarm(int level) {
            return level == LEVELS ? REJECTED : waitState(level + 1);
        }

        private static void fillMachines(Plan plan, State s, int level) {
            if (at(s.bags.counts, waitState(level)) == 0) {
                return;
            }
            for (int machine = 0; machine < at(plan.machines, level - 1); machine++) {
                int index = machineIndex(level, machine);
                if (at(s.machineBag, index) == NONE && works(plan, s, level, machine)) {
                    int bag = s.firstOfQueue(waitState(level));
                    if (bag != NONE) {
                        put(s.machineBag, index, bag);
                        put(s.ticksLeft, index, at(plan.ticks, level - 1));
                        put(s.bags.level, bag, level);
                        s.enter(bag, waitState(level) + 1);
                    }
                }
            }
        }

        private static boolean works(Plan plan, State s, int level, int machine) {
            return s.clock > at(s.broken, machineIndex(level, machine)) && !plan.isOffShift(level, machine, s.clock);
        }

        private static void fillEntry(Plan plan, State s) {
            if (at(s.loop, plan.entry) == NONE) {
                int bag = s.firstOfQueue(WAITS_FOR_LOOP);
                if (bag != NONE) {
                    put(s.loop, plan.entry, bag);
                    put(s.bags.laps, bag, 0);
                    s.enter(bag, ON_LOOP);
                }
            }
        }
    }

    /** The input buffer, and what reads its text into a plan and a state; the first error ends this with load's IllegalArgumentException. */
    private static final class Parser {
        static final int END = 0;
        static final int WORD = 1;
        static final int NUMBER = 2;
        static final int SIGN = 3;
        static final int BAD = 4;

        static final int WRONG_TOKEN = 1;
        static final int OUT_OF_BOUNDS = 2;
        static final int TAKEN_POSITION = 3;
        static final int TOO_MANY_LINES = 4;
        static final int NO_FLIGHT = 5;
        static final int TOO_DEEP = 6;

        static final int MAX_LETTERS = 8;
        static final int MAX_DIGITS = 5;
        static final int MAX_DEPTH = 9;

        int error = 0;
        int errorAt = NONE;
        int size = 0;
        private final byte[] bytes = new byte[MAX_BYTES];
        private int end = 0;
        private int next = 0;
        // The token that is not taken yet.
        private int kind = END;
        private int start = 0;
        private int value = 0;
        // A bit for each position of the loop that a line has already.
        private long taken = 0;

        void addInt(int word) {
            for (int shift = 24; shift >= 0 && size >= 0 && size < bytes.length; shift -= 8) {
                bytes[size] = (byte) (word >> shift);
                size++;
            }
        }

        void parse(int n, Plan plan, State state) {
            error = 0;
            errorAt = NONE;
            end = Math.min(n, bytes.length);
            next = 0;
            taken = 0;
            plan.clear();
            state.clear();
            step();
            readHeader(plan, state);
            for (int lines = 0; lines < MAX_BYTES && isSign(';'); lines++) {
                step();
                readLine(plan, state);
            }
            if (kind != END) {
                fail(WRONG_TOKEN);
            }
            if (plan.flights == 0) {
                fail(NO_FLIGHT);
            }
            Ticks.admitArrivals(state);
        }

        private void readHeader(Plan plan, State state) {
            takeWord("loop");
            plan.length = takeNumber(4, MAX_LENGTH);
            plan.entry = takePosition(plan);
            plan.problem = takePosition(plan);
            for (int level = 0; level < LEVELS; level++) {
                takeWord("level");
                plan.machines[level] = takeNumber(1, MAX_MACHINES);
                plan.ticks[level] = takeNumber(1, 99);
                plan.alarm[level] = takeNumber(0, 1000);
            }
            takeWord("hot");
            state.hot = takeNumber(0, 999);
            takeWord("seed");
            state.draws = takeNumber(0, 99999);
        }

        private void readLine(Plan plan, State state) {
            if (isWord("flight")) {
                beginLine(plan.flights, MAX_FLIGHTS);
                readFlight(plan, state);
            } else if (isWord("lane")) {
                beginLine(plan.lanes, MAX_LANES);
                readLane(plan);
            } else if (isWord("bags")) {
                step();
                readBags(plan, state);
            } else if (isWord("shift")) {
                beginLine(plan.shifts, MAX_SHIFTS);
                readShift(plan);
            } else if (isWord("keep")) {
                beginLine(plan.tests.count, MAX_KEEPS);
                readTest(plan.tests, 0);
                plan.tests.endTest();
            } else {
                fail(WRONG_TOKEN);
            }
        }

        private void beginLine(int lines, int most) {
            if (lines >= most) {
                fail(TOO_MANY_LINES);
            }
            step();
        }

        private void readFlight(Plan plan, State state) {
            int position = takePosition(plan);
            int open = takeNumber(0, 999);
            int close = takeNumber(open + 1, 1999);
            put(plan.flightPosition, plan.flights, position);
            put(state.open, plan.flights, open);
            put(state.close, plan.flights, close);
            plan.flights++;
        }

        private void readLane(Plan plan) {
            int position = takePosition(plan);
            int capacity = takeNumber(1, MAX_CAPACITY);
            put(plan.lanePosition, plan.lanes, position);
            put(plan.capacity, plan.lanes, capacity);
            plan.lanes++;
        }

        private void readBags(Plan plan, State state) {
            int time = takeNumber(0, 999);
            int count = takeNumber(1, MAX_BAGS - state.bags.count);
            int flight = takeNumber(0, plan.flights - 1);
            state.bags.addGroup(time, count, flight);
        }

        private void readShift(Plan plan) {
            int level = takeNumber(1, LEVELS);
            int count = takeNumber(0, 3);
            int from = takeNumber(0, 999);
            int until = takeNumber(from, 1999);
            put(plan.shiftLevel, plan.shifts, level);
            put(plan.shiftCount, plan.shifts, count);
            put(plan.shiftFrom, plan.shifts, from);
            put(plan.shiftUntil, plan.shifts, until);
            plan.shifts++;
        }

        private void readTest(Tests tests, int depth) {
            readUnit(tests, depth);
            for (int units = 0; units < MAX_BYTES && (isWord("and") || isWord("or")); units++) {
                int operator = isWord("and") ? Tests.AND : Tests.OR;
                step();
                readUnit(tests, depth);
                tests.addPart(operator, 0);
            }
        }

        private void readUnit(Tests tests, int depth) {
            int compared = valueWord();
            if (compared == NONE && !isWord("not") && !isSign('(')) {
                fail(WRONG_TOKEN);
            }
            if (depth > MAX_DEPTH) {
                fail(TOO_DEEP);
            }
            if (isWord("not")) {
                step();
                readUnit(tests, depth + 1);
                tests.addPart(Tests.NOT, 0);
            } else if (isSign('(')) {
                step();
                readTest(tests, depth + 1);
                takeSign(')');
            } else {
                step();
                int relation = takeRelation();
                tests.addPart(compared * 3 + relation, takeNumber(0, 9999));
            }
        }

        private int valueWord() {
            if (isWord("wait")) {
                return Tests.WAIT;
            }
            if (isWord("laps")) {
                return Tests.LAPS;
            }
            if (isWord("level")) {
                return Tests.LEVEL;
            }
            if (isWord("load")) {
                return Tests.LOAD;
            }
            return isWord("time") ? Tests.TIME : NONE;
        }

        private int takeRelation() {
            int relation = isSign('<') ? Tests.LESS : isSign('>') ? Tests.GREATER : Tests.EQUAL;
            if (relation == Tests.EQUAL && !isSign('=')) {
                fail(WRONG_TOKEN);
            }
            step();
            return relation;
        }

        private void takeWord(String word) {
            if (!isWord(word)) {
                fail(WRONG_TOKEN);
            }
            step();
        }

        private void takeSign(int sign) {
            if (!isSign(sign)) {
                fail(WRONG_TOKEN);
            }
            step();
        }

        private int takeNumber(int low, int high) {
            if (kind != NUMBER) {
                fail(WRONG_TOKEN);
            }
            if (value < low || value > high) {
                fail(OUT_OF_BOUNDS);
            }
            int number = value;
            step();
            return number;
        }

        private int takePosition(Plan plan) {
            if (kind == NUMBER && value < plan.length && (taken >> value & 1) == 1) {
                fail(TAKEN_POSITION);
            }
            int position = takeNumber(0, plan.length - 1);
            taken = taken | 1L << position;
            return position;
        }

        private void fail(int code) {
            error = code;
            errorAt = start;
            throw new IllegalArgumentException("the text has an error");
        }

        private boolean isWord(String word) {
            if (kind != WORD || next - start != word.length()) {
                return false;
            }
            for (int i = 0; i < word.length() && start + i < bytes.length; i++) {
                if (bytes[start + i] != word.charAt(i)) {
                    return false;
                }
            }
            return true;
        }

        private boolean isSign(int sign) {
            return kind == SIGN && value == sign;
        }

        /** Goes to the next token. A bad one is no error yet: the errors of the token before it come first. */
        private void step() {
            skip(' ', ' ');
            start = next;
            if (next >= end) {
                kind = END;
                return;
            }
            int first = bytes[next];
            if (first >= 'a' && first <= 'z') {
                skip('a', 'z');
                kind = next - start <= MAX_LETTERS ? WORD : BAD;
            } else if (first >= '0' && first <= '9') {
                skip('0', '9');
                kind = next - start <= MAX_DIGITS ? NUMBER : BAD;
                value = kind == NUMBER ? decimal() : 0;
            } else {
                next++;
                kind = ";()<>=".indexOf((char) (first & 255)) >= 0 ? SIGN : BAD;
                value = first;
            }
        }

        private void skip(int low, int high) {
            while (next < end && bytes[next] >= low && bytes[next] <= high) {
                next++;
            }
        }

        private int decimal() {
            int number = 0;
            for (int i = start; i < next; i++) {
                number = number * 10 + bytes[i] - '0';
            }
            return number;
        }
    }

    /** The states before the latest changes, in a ring. */
    private static final class History {
        int size = 0;
        private int next = 0;
        private final State[] past = new State[MAX_UNDO];

        History() {
            for (int i = 0; i < past.length; i++) {
                past[i] = new State();
            }
        }

        void remember(State state) {
            if (next >= 0 && next < past.length && past[next] != null) {
                past[next].copyFrom(state);
            }
            next = next + 1 < MAX_UNDO ? next + 1 : 0;
            size = Math.min(size + 1, MAX_UNDO);
        }

        void bringBack(State state) {
            next = next > 0 ? next - 1 : MAX_UNDO - 1;
            if (next < past.length && past[next] != null) {
                state.copyFrom(past[next]);
            }
            size = Math.max(size - 1, 0);
        }
    }

    /** A text that a call writes and others read byte by byte. */
    private static final class Text {
        int size = 0;
        private final byte[] bytes;

        Text(int most) {
            bytes = new byte[Math.max(most, 0)];
        }

        int byteAt(int i) {
            return i >= 0 && i < size && i < bytes.length ? bytes[i] & 255 : NONE;
        }

        void putByte(int value) {
            if (size >= 0 && size < bytes.length) {
                bytes[size] = (byte) value;
                size++;
            }
        }

        /** Puts a semicolon before every part but the first. */
        void separate(int part) {
            if (part > 0) {
                putByte(';');
            }
        }

        void putNumber(int number) {
            for (int power = 1000000000; power > 0; power /= 10) {
                if (number >= power || power == 1) {
                    putByte('0' + number / power % 10);
                }
            }
        }
    }
}
