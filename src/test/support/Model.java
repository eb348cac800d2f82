import java.util.ArrayList;
import java.util.Comparator;
import java.util.List;
import java.util.stream.Collectors;

/**
 * The document once more, written without a thought for speed or room, with the names of its face.
 * ModelTest lets it and BaggageLoop answer the same calls.
 */
public final class Model {
    private static final int NONE = -1;

    static final class Flight {
        int position;
        int open;
        int close;

        Flight copy() {
            Flight f = new Flight();
            f.position = position;
            f.open = open;
            f.close = close;
            return f;
        }
    }

    static final class Bag {
        int number;
        int state;
        int flight;
        int arrival;
        int position = NONE;
        int laps;
        int level;
        int lane = NONE;
        int finished = NONE;

        Bag copy() {
            Bag b = new Bag();
            b.number = number;
            b.state = state;
            b.flight = flight;
            b.arrival = arrival;
            b.position = position;
            b.laps = laps;
            b.level = level;
            b.lane = lane;
            b.finished = finished;
            return b;
        }
    }

    static final class Lane {
        int position;
        int capacity;
        boolean blocked;
        List<Integer> bags = new ArrayList<>();

        Lane copy() {
            Lane l = new Lane();
            l.position = position;
            l.capacity = capacity;
            l.blocked = blocked;
            l.bags = new ArrayList<>(bags);
            return l;
        }
    }

    static final class Machine {
        int bag = NONE;
        int left;
        int broken;

        Machine copy() {
            Machine m = new Machine();
            m.bag = bag;
            m.left = left;
            m.broken = broken;
            return m;
        }
    }

    interface Test {
        boolean holds(World w, Bag b);
    }

    static final class World {
        int length;
        int entry;
        int problem;
        int[] ticks = new int[3];
        int[] alarm = new int[3];
        List<int[]> shifts = new ArrayList<>();
        List<Test> keeps = new ArrayList<>();
        int time;
        int hot;
        long s;
        int stopped;
        List<Flight> flights = new ArrayList<>();
        List<Lane> lanes = new ArrayList<>();
        List<Bag> bags = new ArrayList<>();
        List<List<Machine>> levels = new ArrayList<>();
        List<int[]> events = new ArrayList<>();

        World copy() {
            World w = new World();
            w.length = length;
            w.entry = entry;
            w.problem = problem;
            w.ticks = ticks;
            w.alarm = alarm;
            w.shifts = shifts;
            w.keeps = keeps;
            w.time = time;
            w.hot = hot;
            w.s = s;
            w.stopped = stopped;
            flights.forEach(f -> w.flights.add(f.copy()));
            lanes.forEach(l -> w.lanes.add(l.copy()));
            bags.forEach(b -> w.bags.add(b.copy()));
            for (List<Machine> level : levels) {
                w.levels.add(level.stream().map(Machine::copy).collect(Collectors.toList()));
            }
            w.events.addAll(events);
            return w;
        }

        Flight flightOf(Bag b) {
            return flights.get(b.flight);
        }

        int phase(Flight f) {
            return time < f.open ? 0 : time < f.close ? 1 : 2;
        }

        boolean hot(Bag b) {
            return flightOf(b).close - time <= hot;
        }

        boolean kept(Bag b) {
            return keeps.stream().anyMatch(k -> k.holds(this, b));
        }

        int load() {
            return (int) bags.stream().filter(b -> b.state == 8).count();
        }

        Bag on(int position) {
            return bags.stream().filter(b -> b.state == 8 && b.position == position).findAny().orElse(null);
        }

        List<Bag> queue(int number) {
            return bags.stream().filter(b -> b.state == 2 * number - 1)
                    .sorted(Comparator.comparing((Bag b) -> hot(b) ? 0 : 1)
                            .thenComparing(b -> flightOf(b).close)
                            .thenComparing(b -> b.arrival)
                            .thenComparing(b -> b.number))
                    .collect(Collectors.toList());
        }

        void into(Bag b, int state) {
            b.state = state;
            if (state != 8) {
                b.position = NONE;
            }
            if (state >= 10) {
                b.finished = time;
            }
            if (state >= 9 && events.size() < 300) {
                events.add(new int[] {time, state, b.number, b.flight});
            }
        }

        int draw() {
            s = Math.floorMod(s * 1103515245L + 12345L, 1L << 31);
            return (int) (s / 65536 % 1000);
        }

        boolean out(int level, int machine) {
            boolean shift = shifts.stream().anyMatch(
                    h -> h[0] == level && machine >= h[1] && h[2] <= time && time <= h[3]);
            return shift || time <= levels.get(level - 1).get(machine).broken;
        }

        void arrive() {
            bags.stream().filter(b -> b.state == 0 && b.arrival == time).forEach(b -> b.state = 1);
        }

        void tick() {
            time++;
            arrive();
            if (time > stopped) {
                for (Bag b : bags) {
                    if (b.state == 8) {
                        b.position = (b.position + 1) % length;
                        b.laps += b.position == entry ? 1 : 0;
                    }
                }
            }
            stepC();
            for (int i = 0; i < lanes.size(); i++) {
                Lane l = lanes.get(i);
                if (!l.bags.isEmpty() && phase(flightOf(bags.get(l.bags.get(0)))) > 0 && on(l.position) == null) {
                    Bag b = bags.get(l.bags.remove(0));
                    b.lane = NONE;
                    b.state = 8;
                    b.position = l.position;
                }
            }
            for (int level = 3; level > 0; level--) {
                stepE(level);
            }
            for (int level = 3; level > 0; level--) {
                for (int m = 0; m < levels.get(level - 1).size(); m++) {
                    Machine machine = levels.get(level - 1).get(m);
                    if (machine.bag == NONE && !out(level, m) && !queue(level).isEmpty()) {
                        Bag b = queue(level).get(0);
                        machine.bag = b.number;
                        machine.left = ticks[level - 1];
                        b.state = 2 * level;
                        b.level = Math.max(b.level, level);
                    }
                }
            }
            if (on(entry) == null && !queue(4).isEmpty()) {
                Bag b = queue(4).get(0);
                b.state = 8;
                b.position = entry;
                b.laps = 0;
            }
        }

        private void stepC() {
            for (int p = 0; p < length; p++) {
                Bag b = on(p);
                if (b == null) {
                    continue;
                }
                Flight f = flightOf(b);
                if (p == f.position && phase(f) == 1) {
                    into(b, 10);
                } else if (p == problem && phase(f) == 2) {
                    into(b, 11);
                } else {
                    for (int i = 0; i < lanes.size(); i++) {
                        Lane l = lanes.get(i);
                        boolean takes = !l.blocked && l.bags.size() < l.capacity && (l.bags.isEmpty()
                                || flightOf(bags.get(l.bags.get(l.bags.size() - 1))).open <= f.open);
                        if (l.position == p && phase(f) == 0 && takes && !kept(b)) {
                            into(b, 9);
                            b.lane = i;
                            l.bags.add(b.number);
                        }
                    }
                }
            }
        }

        private void stepE(int level) {
            for (int m = 0; m < levels.get(level - 1).size(); m++) {
                Machine machine = levels.get(level - 1).get(m);
                if (machine.bag != NONE && !out(level, m) && --machine.left == 0) {
                    Bag b = bags.get(machine.bag);
                    machine.bag = NONE;
                    if (draw() >= alarm[level - 1]) {
                        b.state = 7;
                    } else if (level < 3) {
                        b.state = 2 * level + 1;
                    } else {
                        into(b, 12);
                    }
                }
            }
        }

        int count(int flight, int state) {
            return (int) bags.stream().filter(b -> b.flight == flight && b.state == state).count();
        }

        int count(int state) {
            return (int) bags.stream().filter(b -> b.state == state).count();
        }

        boolean clear() {
            return bags.stream().allMatch(b -> b.state >= 10);
        }
    }

    // ---- the parser

    static final class Wrong extends RuntimeException {
        private static final long serialVersionUID = 1L;
        final int code;
        final int position;

        Wrong(int code, int position) {
            this.code = code;
            this.position = position;
        }
    }

    /** kind: 'w' word, 'n' number, 's' sign, 'b' bad, 'e' end. */
    record Token(char kind, String text, int at) {
        int value() {
            return Integer.parseInt(text);
        }
    }

    static List<Token> tokens(String text) {
        List<Token> all = new ArrayList<>();
        int i = 0;
        while (i < text.length()) {
            String rest = text.substring(i);
            String word = rest.replaceFirst("(?s)^([a-z]*).*$", "$1");
            String number = rest.replaceFirst("(?s)^([0-9]*).*$", "$1");
            if (rest.charAt(0) == ' ') {
                i++;
            } else if (!word.isEmpty()) {
                all.add(new Token(word.length() > 8 ? 'b' : 'w', word, i));
                i += word.length();
            } else if (!number.isEmpty()) {
                all.add(new Token(number.length() > 5 ? 'b' : 'n', number, i));
                i += number.length();
            } else {
                String sign = rest.substring(0, 1);
                all.add(new Token("();<>=".contains(sign) ? 's' : 'b', sign, i));
                i++;
            }
        }
        all.add(new Token('e', "", text.length()));
        return all;
    }

    static final class Reader {
        final List<Token> tokens;
        int i = 0;
        final World w = new World();
        final List<Integer> used = new ArrayList<>();

        Reader(String text) {
            tokens = tokens(text);
        }

        Token look() {
            return tokens.get(i);
        }

        boolean is(String literal) {
            return (look().kind == 'w' || look().kind == 's') && look().text.equals(literal);
        }

        void literal(String literal) {
            if (!is(literal)) {
                throw new Wrong(1, look().at);
            }
            i++;
        }

        int number(int low, int high) {
            Token t = look();
            if (t.kind != 'n') {
                throw new Wrong(1, t.at);
            }
            if (t.value() < low || t.value() > high) {
                throw new Wrong(2, t.at);
            }
            i++;
            return t.value();
        }

        int place() {
            Token t = look();
            int p = number(0, w.length - 1);
            if (used.contains(p)) {
                throw new Wrong(3, t.at);
            }
            used.add(p);
            return p;
        }

        World read() {
            literal("loop");
            w.length = number(4, 40);
            w.entry = place();
            w.problem = place();
            for (int k = 0; k < 3; k++) {
                literal("level");
                int machines = number(1, 4);
                List<Machine> level = new ArrayList<>();
                for (int m = 0; m < machines; m++) {
                    level.add(new Machine());
                }
                w.levels.add(level);
                w.ticks[k] = number(1, 99);
                w.alarm[k] = number(0, 1000);
            }
            literal("hot");
            w.hot = number(0, 999);
            literal("seed");
            w.s = number(0, 99999);
            while (look().kind != 'e') {
                literal(";");
                line();
            }
            if (w.flights.isEmpty()) {
                throw new Wrong(5, look().at);
            }
            w.arrive();
            return w;
        }

        void atMost(int lines, int most) {
            if (lines == most) {
                throw new Wrong(4, look().at);
            }
            i++;
        }

        void line() {
            if (is("flight")) {
                atMost(w.flights.size(), 8);
                Flight f = new Flight();
                f.position = place();
                f.open = number(0, 999);
                f.close = number(f.open + 1, 1999);
                w.flights.add(f);
            } else if (is("lane")) {
                atMost(w.lanes.size(), 4);
                Lane l = new Lane();
                l.position = place();
                l.capacity = number(1, 20);
                w.lanes.add(l);
            } else if (is("shift")) {
                atMost(w.shifts.size(), 4);
                int level = number(1, 3);
                int count = number(0, 3);
                int from = number(0, 999);
                w.shifts.add(new int[] {level, count, from, number(from, 1999)});
            } else if (is("keep")) {
                atMost(w.keeps.size(), 3);
                w.keeps.add(test(0));
            } else {
                literal("bags");
                int time = number(0, 999);
                int count = number(1, 100 - w.bags.size());
                int flight = number(0, w.flights.size() - 1);
                addTo(w, time, count, flight);
            }
        }

        Test test(int inside) {
            Test left = unit(inside);
            while (is("and") || is("or")) {
                boolean and = is("and");
                i++;
                Test first = left;
                Test second = unit(inside);
                left = and ? (w, b) -> first.holds(w, b) && second.holds(w, b)
                        : (w, b) -> first.holds(w, b) || second.holds(w, b);
            }
            return left;
        }

        Test unit(int inside) {
            List<String> values = List.of("wait", "laps", "level", "load", "time");
            boolean value = look().kind == 'w' && values.contains(look().text);
            if (!value && !is("not") && !is("(")) {
                throw new Wrong(1, look().at);
            }
            if (inside > 9) {
                throw new Wrong(6, look().at);
            }
            Token first = look();
            i++;
            if (first.text.equals("not")) {
                Test inner = unit(inside + 1);
                return (w, b) -> !inner.holds(w, b);
            }
            if (first.text.equals("(")) {
                Test inner = test(inside + 1);
                literal(")");
                return inner;
            }
            Token relation = look();
            if (!is("<") && !is(">")) {
                literal("=");
            } else {
                i++;
            }
            int number = number(0, 9999);
            return (w, b) -> {
                int v = switch (first.text) {
                    case "wait" -> Math.max(w.flightOf(b).open - w.time, 0);
                    case "laps" -> b.laps;
                    case "level" -> b.level;
                    case "load" -> w.load();
                    default -> w.time;
                };
                return switch (relation.text) {
                    case "<" -> v < number;
                    case ">" -> v > number;
                    default -> v == number;
                };
            };
        }
    }

    private static void addTo(World w, int time, int count, int flight) {
        for (int k = 0; k < count; k++) {
            Bag b = new Bag();
            b.number = w.bags.size();
            b.arrival = time;
            b.flight = flight;
            w.bags.add(b);
        }
    }

    // ---- the face

    private String buffer = "";
    private int error = 0;
    private int errorAt = NONE;
    private World w = null;
    private final List<World> past = new ArrayList<>();
    private final World[] slots = new World[2];
    private String report = "";
    private String map = "";
    private String timetable = "";

    private static void range(int v, int low, int high) {
        if (v < low || v > high) {
            throw new IllegalArgumentException();
        }
    }

    private static void index(int v, int size) {
        if (v < 0 || v >= size) {
            throw new IndexOutOfBoundsException();
        }
    }

    private World world() {
        if (w == null) {
            throw new IllegalStateException();
        }
        return w;
    }

    private Bag bag(int number) {
        index(number, world().bags.size());
        return w.bags.get(number);
    }

    private Flight flight(int number) {
        index(number, world().flights.size());
        return w.flights.get(number);
    }

    private Lane lane(int number) {
        index(number, world().lanes.size());
        return w.lanes.get(number);
    }

    private Machine machine(int level, int machine) {
        index(level - 1, world().levels.size());
        index(machine, w.levels.get(level - 1).size());
        return w.levels.get(level - 1).get(machine);
    }

    private void ticks(int n, int most) {
        range(n, 1, most);
        range(w.time + n, 0, 9999);
    }

    private void change() {
        past.add(w.copy());
        if (past.size() > 6) {
            past.remove(0);
        }
    }

    public int append(int a, int b, int c, int d, int e) {
        if (buffer.length() > 1180) {
            return NONE;
        }
        for (int word : new int[] {a, b, c, d, e}) {
            for (int k = 3; k >= 0; k--) {
                buffer += (char) (word >>> 8 * k & 255);
            }
        }
        return buffer.length();
    }

    public int load(int n) {
        index(n, buffer.length() + 1);
        String text = buffer.substring(0, n);
        buffer = "";
        try {
            w = new Reader(text).read();
        } catch (Wrong wrong) {
            error = wrong.code;
            errorAt = wrong.position;
            throw new IllegalArgumentException();
        }
        error = 0;
        errorAt = NONE;
        past.clear();
        slots[0] = null;
        slots[1] = null;
        return w.bags.size();
    }

    public int parseError() {
        return error;
    }

    public int errorPosition() {
        return errorAt;
    }

    public int buffered() {
        return buffer.length();
    }

    public int time() {
        return w == null ? 0 : w.time;
    }

    public int bags() {
        return w == null ? 0 : w.bags.size();
    }

    public int stateOf(int bag) {
        return bag(bag).state;
    }

    public int flightOf(int bag) {
        return bag(bag).flight;
    }

    public int arrivalOf(int bag) {
        return bag(bag).arrival;
    }

    public int positionOf(int bag) {
        return bag(bag).position;
    }

    public int lapsOf(int bag) {
        return bag(bag).laps;
    }

    public int levelOf(int bag) {
        return bag(bag).level;
    }

    public int laneOf(int bag) {
        return bag(bag).lane;
    }

    public int ticksTo(int bag) {
        Bag b = bag(bag);
        return b.state != 8 ? NONE : Math.floorMod(w.flightOf(b).position - b.position, w.length);
    }

    public int finishedAt(int bag) {
        return bag(bag).finished;
    }

    public boolean isHot(int bag) {
        return w().hot(bag(bag));
    }

    public boolean isKept(int bag) {
        return w().kept(bag(bag));
    }

    private World w() {
        return world();
    }

    public int bagAt(int position) {
        index(position, world().length);
        return w.on(position) == null ? NONE : w.on(position).number;
    }

    public int loopLoad() {
        return w == null ? 0 : w.load();
    }

    public int waiting(int queue) {
        world();
        range(queue, 1, 4);
        return w.queue(queue).size();
    }

    public int queueAt(int queue, int place) {
        world();
        index(queue - 1, 4);
        index(place, w.queue(queue).size());
        return w.queue(queue).get(place).number;
    }

    public int machineAt(int level, int machine) {
        return machine(level, machine).bag;
    }

    public int brokenUntil(int level, int machine) {
        return machine(level, machine).broken;
    }

    public int stoppedUntil() {
        return w == null ? 0 : w.stopped;
    }

    public int lanes() {
        return w == null ? 0 : w.lanes.size();
    }

    public int laneSize(int lane) {
        return lane(lane).bags.size();
    }

    public int laneAt(int lane, int place) {
        index(place, lane(lane).bags.size());
        return lane(lane).bags.get(place);
    }

    public int keeps() {
        return w == null ? 0 : w.keeps.size();
    }

    public int flights() {
        return w == null ? 0 : w.flights.size();
    }

    public int flightState(int flight) {
        return w().phase(flight(flight));
    }

    public int openOf(int flight) {
        return flight(flight).open;
    }

    public int closeOf(int flight) {
        return flight(flight).close;
    }

    public int countOf(int flight, int state) {
        flight(flight);
        range(state, 0, 13);
        return w.count(flight, state);
    }

    public int missing(int flight) {
        flight(flight);
        return (int) w.bags.stream().filter(b -> b.flight == flight && b.state < 10).count();
    }

    private int all(int flight) {
        return (int) w.bags.stream().filter(b -> b.flight == flight).count();
    }

    public float loadedShare(int flight) {
        flight(flight);
        return all(flight) == 0 ? 0 : (float) w.count(flight, 10) / (float) all(flight);
    }

    public int percentile(int flight, int percent) {
        flight(flight);
        range(percent, 1, 100);
        List<Integer> times = w.bags.stream().filter(b -> b.flight == flight && b.state == 10)
                .map(b -> b.finished - b.arrival).sorted().collect(Collectors.toList());
        int n = times.size();
        return n == 0 ? NONE : times.get((int) Math.ceil(percent * n / 100.0 - 1e-9) - 1);
    }

    public int worstFlight(int rank) {
        flight(rank);
        List<Integer> order = new ArrayList<>();
        for (int f = 0; f < w.flights.size(); f++) {
            order.add(f);
        }
        order.sort(Comparator.comparing((Integer f) -> -w.count(f, 11)).thenComparing(f -> -missing(f)));
        return order.get(rank);
    }

    public int events() {
        return w == null ? 0 : w.events.size();
    }

    public int event(int number, int what) {
        index(number, world().events.size());
        range(what, 0, 3);
        return w.events.get(number)[what];
    }

    public int report() {
        world();
        List<String> parts = new ArrayList<>();
        for (int f = 0; f < w.flights.size(); f++) {
            int shorts = w.count(f, 11);
            parts.add(w.count(f, 10) + "/" + all(f) + (shorts > 0 ? "-" + shorts : ""));
        }
        report = String.join(";", parts);
        return report.length();
    }

    public int reportByte(int i) {
        index(i, report.length());
        return report.charAt(i);
    }

    public int map() {
        world();
        map = "";
        for (int p = 0; p < w.length; p++) {
            map += w.on(p) == null ? "." : String.valueOf((char) ('A' + w.on(p).flight));
        }
        return map.length();
    }

    public int mapByte(int i) {
        index(i, map.length());
        return map.charAt(i);
    }

    public int timetable() {
        world();
        List<Flight> order = new ArrayList<>(w.flights);
        order.sort(Comparator.comparing(f -> f.close));
        List<String> parts = new ArrayList<>();
        for (Flight f : order) {
            int number = w.flights.indexOf(f);
            String part = (char) ('A' + number) + "" + f.open + "-" + f.close;
            for (int l = 0; l < w.lanes.size(); l++) {
                long stored = w.lanes.get(l).bags.stream().filter(b -> w.bags.get(b).flight == number).count();
                part += stored > 0 ? "," + l + "x" + stored : "";
            }
            parts.add(part);
        }
        timetable = String.join(";", parts);
        return timetable.length();
    }

    public int timetableByte(int i) {
        index(i, timetable.length());
        return timetable.charAt(i);
    }

    private static int run(World world, int n, int state) {
        int before = world.count(state);
        for (int k = 0; k < n; k++) {
            world.tick();
        }
        return world.count(state) - before;
    }

    public int loadedIn(int n) {
        world();
        ticks(n, 500);
        return run(w.copy(), n, 10);
    }

    public int shortIn(int n) {
        world();
        ticks(n, 500);
        return run(w.copy(), n, 11);
    }

    public int timeToClear(int n) {
        world();
        ticks(n, 500);
        World copy = w.copy();
        for (int k = 0; k <= n; k++) {
            if (copy.clear()) {
                return k;
            }
            copy.tick();
        }
        return NONE;
    }

    private static int later(World world, int flight, int by) {
        Flight f = world.flights.get(flight);
        f.open += world.phase(f) == 0 ? by : 0;
        f.close += by;
        return f.close;
    }

    public int bestDelay(int flight, int n) {
        flight(flight);
        ticks(n, 200);
        range(w.phase(flight(flight)), 0, 1);
        int best = NONE;
        int fewest = 1000;
        for (int by = 0; by <= 50; by += 5) {
            World copy = w.copy();
            later(copy, flight, by);
            int shorts = run(copy, n, 11);
            if (shorts < fewest) {
                fewest = shorts;
                best = by;
            }
        }
        return best;
    }

    public int withoutLane(int lane, int n) {
        lane(lane);
        ticks(n, 500);
        World copy = w.copy();
        copy.lanes.get(lane).blocked = true;
        return run(copy, n, 10);
    }

    public int advance(int n) {
        world();
        ticks(n, 500);
        change();
        return run(w, n, 10);
    }

    public int addBags(int delay, int count, int flight) {
        flight(flight);
        range(delay, 1, 999);
        range(count, 1, 100 - w.bags.size());
        change();
        int first = w.bags.size();
        addTo(w, w.time + delay, count, flight);
        return first;
    }

    public int delay(int flight, int by) {
        flight(flight);
        range(by, 1, 999);
        range(w.phase(flight(flight)), 0, 1);
        change();
        return later(w, flight, by);
    }

    public int offload(int bag) {
        Bag b = bag(bag);
        range(b.state, 10, 10);
        change();
        w.into(b, 13);
        return w.count(b.flight, 10);
    }

    public boolean block(int lane, boolean blocked) {
        lane(lane);
        change();
        boolean before = lane(lane).blocked;
        lane(lane).blocked = blocked;
        return before;
    }

    public int setHot(int hot) {
        world();
        range(hot, 0, 999);
        change();
        int before = w.hot;
        w.hot = hot;
        return before;
    }

    public boolean breakMachine(int level, int machine, int n) {
        Machine m = machine(level, machine);
        range(n, 1, 999);
        change();
        boolean longer = w.time + n > m.broken;
        m.broken = Math.max(m.broken, w.time + n);
        return longer;
    }

    public int stopLoop(int n) {
        world();
        range(n, 0, 999);
        change();
        w.stopped = w.time + n;
        return w.stopped;
    }

    public int reroute(int bag, int flight) {
        Bag b = bag(bag);
        flight(flight);
        range(b.state, 0, 9);
        change();
        int before = b.flight;
        b.flight = flight;
        return before;
    }

    public int undo() {
        if (past.isEmpty()) {
            throw new IllegalStateException();
        }
        w = past.remove(past.size() - 1);
        return past.size();
    }

    public int undoable() {
        return past.size();
    }

    public int save(int slot) {
        world();
        index(slot, 2);
        slots[slot] = w.copy();
        return w.time;
    }

    public int restore(int slot) {
        index(slot, 2);
        if (slots[slot] == null) {
            throw new IllegalStateException();
        }
        w = slots[slot].copy();
        past.clear();
        return w.time;
    }
}
