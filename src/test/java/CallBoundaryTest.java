import java.util.List;
import java.util.function.Function;
import java.util.function.Supplier;

/** The promises 1 to 47, sentence by sentence: the input, the bags, the places, the flights, the log and the texts. */
public final class CallBoundaryTest {
    private static final Class<IllegalStateException> ISE = Check.ISE;
    private static final Class<IllegalArgumentException> IAE = Check.IAE;
    private static final Class<IndexOutOfBoundsException> IOOBE = Check.IOOBE;
    private static final int MIN = Calls.MIN;
    private static final int MAX = Calls.MAX;
    private static final String QUICK = Airports.QUICK;
    private static final String WIDE = Airports.WIDE;
    private static final String NO_BAG = "Throws `IndexOutOfBoundsException` if there is no such bag";
    private static final String NO_FLIGHT = "Throws `IndexOutOfBoundsException` if there is no such flight";
    private static final String NO_LANE = "Throws `IndexOutOfBoundsException` if there is no such lane";
    private static final String NO_MACHINE = "Throws `IndexOutOfBoundsException` if there is no such level or machine";

    private static final Supplier<BaggageLoop> RICH = Airports.RICH;
    private static final int RICH_BAGS = 11;
    private static final Supplier<BaggageLoop> NO_BAGS = () -> Check.loaded("loop 4 0 1" + QUICK + ";flight 2 0 9");
    private static final Supplier<BaggageLoop> HUNDRED =
            () -> Check.loaded("loop 4 0 1" + QUICK + ";flight 2 0 9;bags 0 100 0");
    private static final Supplier<BaggageLoop> EIGHT = () -> Check.loaded("loop 10 0 5" + QUICK + ";flight 1 0 9;flight 2 0 8"
            + ";flight 3 0 7;flight 4 0 6;flight 6 0 5;flight 7 0 6;flight 8 0 3;flight 9 999 1999;bags 0 1 7");

    private static final Spec spec = new Spec();
    private static final Calls calls = new Calls(spec);

    public static void main(String[] args) {
        newObject();
        append();
        load();
        parseError();
        errorPosition();
        buffered();
        time();
        bags();
        stateOf();
        flightOf();
        arrivalOf();
        positionOf();
        lapsOf();
        levelOf();
        laneOf();
        ticksTo();
        finishedAt();
        isHot();
        isKept();
        bagAt();
        loopLoad();
        waiting();
        queueAt();
        machineAt();
        brokenUntil();
        stoppedUntil();
        lanes();
        laneSize();
        laneAt();
        keeps();
        flights();
        flightState();
        openOf();
        closeOf();
        countOf();
        missing();
        loadedShare();
        percentile();
        worstFlight();
        events();
        event();
        report();
        reportByte();
        map();
        mapByte();
        timetable();
        timetableByte();
        String[] sections = new String[47];
        for (int i = 0; i < 47; i++) {
            sections[i] = "Promise " + (i + 1);
        }
        spec.end(sections);
    }

    private static void promise(int number) {
        spec.of("Promise " + number);
    }

    private static void says(String words) {
        spec.says(words);
    }

    private static void due(String what, Object got, Object want) {
        spec.due(what, got, want);
    }

    private static BaggageLoop at(String text, int time) {
        return Airports.at(text, time);
    }

    /** What a call answers for bag 0 in each of the states 0 to 13. */
    private static void inStates(String what, Function<BaggageLoop, Object> call, Object... want) {
        for (int state = 0; state < 14; state++) {
            due(what + " in state " + state, call.apply(Airports.inState(state)), want[state]);
        }
    }

    // ---- input

    private static void newObject() {
        promise(1);
        says("Creates an object without an airport and with an empty input buffer.");
        BaggageLoop x = new BaggageLoop();
        due("buffered", x.buffered(), 0);
        spec.fails("a byte is too many", IOOBE, () -> x.load(1));
        due("parseError", x.parseError(), 0);
        due("errorPosition", x.errorPosition(), -1);
        due("numbers", List.of(x.time(), x.bags(), x.loopLoad(), x.stoppedUntil(), x.lanes(), x.keeps(), x.flights(),
                x.events(), x.undoable()), List.of(0, 0, 0, 0, 0, 0, 0, 0, 0));
        spec.fails("stateOf", ISE, () -> x.stateOf(0));
        spec.fails("undo", ISE, () -> x.undo());
        spec.fails("restore 0", ISE, () -> x.restore(0));
        spec.fails("restore 1", ISE, () -> x.restore(1));
        spec.fails("reportByte", IOOBE, () -> x.reportByte(0));
        spec.fails("mapByte", IOOBE, () -> x.mapByte(0));
        spec.fails("timetableByte", IOOBE, () -> x.timetableByte(0));
        BaggageLoop y = Check.loaded(Airports.RICH_TEXT);
        due("objects have nothing in common", x.flights() + y.flights(), 3);
    }

    private static final Supplier<BaggageLoop> FULL_BUFFER = () -> {
        BaggageLoop x = new BaggageLoop();
        Check.fill(x, Airports.NEXT_TEXT + " ".repeat(1200 - Airports.NEXT_TEXT.length()));
        return x;
    };

    private static void append() {
        promise(2);
        says("Appends twenty bytes to the input buffer: the four bytes of each argument in order, the most significant byte "
                + "first.");
        due("an airport of 5 appends", Check.loaded(Airports.NEXT_TEXT).bags(), 1);
        String[] bullets = {"- `a`: bytes 0 to 3", "- `b`: bytes 4 to 7", "- `c`: bytes 8 to 11", "- `d`: bytes 12 to 15",
            "- `e`: bytes 16 to 19"};
        for (int k = 0; k < 5; k++) {
            says(bullets[k]);
            for (int i = 0; i < 4; i++) {
                for (int wrong : new int[] {'#', 0, 0xff, 0x80}) {
                    // Blanks, but for one byte that starts no token: that is where the error is.
                    int[] words = {0x20202020, 0x20202020, 0x20202020, 0x20202020, 0x20202020};
                    words[k] = 0x20202020 & ~(0xff << 8 * (3 - i)) | wrong << 8 * (3 - i);
                    BaggageLoop x = new BaggageLoop();
                    x.append(0x20202020, 0x20202020, 0x20202020, 0x20202020, 0x20202020);
                    due("append", x.append(words[0], words[1], words[2], words[3], words[4]), 40);
                    spec.fails("load", IAE, () -> x.load(40));
                    due("the place of the byte", x.errorPosition(), 20 + 4 * k + i);
                }
            }
        }
        says("Returns the number of bytes in the buffer; NONE if there would be more than 1200, in which case nothing is "
                + "appended.");
        BaggageLoop x = new BaggageLoop();
        for (int i = 1; i <= 60; i++) {
            due("append " + i, x.append(i, MIN, MAX, -1, 0), 20 * i);
        }
        due("one more", x.append(0, 0, 0, 0, 0), -1);
        due("buffered", x.buffered(), 1200);
        spec.unchanged("an append that is too much", FULL_BUFFER, y -> y.append(-1, -1, -1, -1, -1));
        BaggageLoop z = FULL_BUFFER.get();
        z.append(-1, -1, -1, -1, -1);
        due("the text is as it was", z.load(1200), 1);
        due("there is room again", z.append(0, 0, 0, 0, 0), 20);
    }

    private static void load() {
        promise(3);
        says("Parses the first n bytes of the input buffer and empties the buffer, even if the parse fails.");
        BaggageLoop x = new BaggageLoop();
        String text = Airports.NEXT_TEXT;
        Check.fill(x, text + "###");
        due("load", x.load(text.length()), 1);
        due("the buffer is empty", x.buffered(), 0);
        Check.fill(x, text + "###");
        spec.fails("a byte more", IAE, () -> x.load(text.length() + 1));
        due("the buffer is empty after an error", x.buffered(), 0);
        due("where the next append begins", x.append(0, 0, 0, 0, 0), 20);
        // What was in the buffer before is not read again.
        spec.fails("the next text", IAE, () -> x.load(20));
        due("its error", x.errorPosition(), 0);

        says("On success the airport replaces the previous one, the time is 0, nothing can be undone, and no state is saved.");
        BaggageLoop y = RICH.get();
        due("load", y.load(Airports.NEXT_TEXT.length()), 1);
        BaggageLoop same = Check.loaded(Airports.NEXT_TEXT);
        for (String next : List.of(Airports.NEXT_TEXT, Airports.RICH_TEXT, Airports.BUSY_TEXT, FULL_TEXT)) {
            replaces(RICH, next);
            replaces(Airports.BUSY, next);
            replaces(USED, next);
        }
        leftovers();
        due("time", y.time(), 0);
        due("undoable", y.undoable(), 0);
        spec.fails("undo", ISE, () -> y.undo());
        spec.fails("restore 0", ISE, () -> y.restore(0));
        spec.fails("restore 1", ISE, () -> y.restore(1));
        due("flights", y.flights(), same.flights());

        says("- `n`: number of bytes to parse");
        String two = Airports.NEXT_TEXT + ";bags 0 23 0";
        int[][] cuts = {{two.length(), 24}, {two.length() - 12, 1}};
        for (int[] c : cuts) {
            BaggageLoop z = new BaggageLoop();
            Check.fill(z, two);
            due("load " + c[0], z.load(c[0]), c[1]);
        }
        BaggageLoop nothing = new BaggageLoop();
        spec.fails("0 bytes of an empty buffer", IAE, () -> nothing.load(0));
        due("their error", nothing.parseError() * 100 + nothing.errorPosition(), 100);

        says("Returns the number of bags.");
        due("0", Check.load(new BaggageLoop(), "loop 4 0 1" + QUICK + ";flight 2 0 9"), 0);
        due("1", Check.load(new BaggageLoop(), "loop 4 0 1" + QUICK + ";flight 2 0 9;bags 5 1 0"), 1);
        due("100", Check.load(new BaggageLoop(), "loop 4 0 1" + QUICK + ";flight 2 0 9;bags 999 99 0;bags 0 1 0"), 100);

        says("Throws `IndexOutOfBoundsException` if n is negative or greater than the number of bytes in the buffer; the "
                + "buffer, parseError() and errorPosition() stay");
        int size = RICH.get().buffered();
        for (int n : new int[] {-1, MIN, size + 1, MAX, 1201}) {
            spec.refused("load " + n, IOOBE, RICH, z -> z.load(n));
        }
        for (int n : new int[] {-1, MIN, 1, 20, MAX}) {
            spec.refused("load " + n + " of an empty buffer", IOOBE, Airports.EMPTY, z -> z.load(n));
        }
        spec.refused("load 1201", IOOBE, FULL_BUFFER, z -> z.load(1201));
        due("load 1200", FULL_BUFFER.get().load(1200), 1);

        says("Throws `IllegalArgumentException` if the text has an error; the previous airport stays");
        for (int n : new int[] {0, 1, size - 1 - 20, 30}) {
            for (Views.Probe probe : Views.PROBES) {
                BaggageLoop z = RICH.get();
                spec.fails("load " + n, IAE, () -> z.load(n));
                due("parseError", z.parseError(), 1);
                Check.fill(z, Airports.NEXT_TEXT);
                due("the airport after load " + n, withoutErrors(probe.look(z)), withoutErrors(Views.expected(RICH, probe)));
            }
        }
    }

    /** An object that has loaded a text cannot be told from a new one that has, whatever was in it before. */
    private static void replaces(Supplier<BaggageLoop> before, String text) {
        for (Views.Probe probe : Views.PROBES) {
            String want = withoutTexts(probe.look(Check.loaded(text)));
            BaggageLoop next = before.get();
            next.loadedIn(1);
            emptyBuffer(next);
            due("load", Check.load(next, text), Check.loaded(text).bags());
            due("nothing is left", withoutTexts(probe.look(next)), want);
            // The object may use again what it has put aside, so that an older airport could come back.
            BaggageLoop afterNext = before.get();
            emptyBuffer(afterNext);
            Check.load(afterNext, Airports.NEXT_TEXT);
            Check.load(afterNext, text);
            due("nothing of the one before is left", withoutTexts(probe.look(afterNext)), want);
        }
    }

    /** Lanes, lines and bags of an airport that was there two loads before, which the latest one does not have. */
    private static void leftovers() {
        String plain = "loop 10 0 5" + WIDE + ";flight 3 60 99;bags 1 3 0";
        String kept = plain + ";lane 2 5;keep time=999";
        for (String old : List.of(plain + ";lane 1 9;lane 2 9;lane 4 9;lane 6 9", plain + ";lane 2 9;lane 1 9",
                plain + ";shift 1 0 0 1999;shift 1 0 0 1999;shift 2 0 0 1999;shift 3 0 0 1999",
                plain + ";keep time<9999;keep time<9999;keep time<9999", plain + ";lane 2 9;keep time>5000;keep time<9999",
                plain.replace("60 99", "0 99").replace("bags 1 3", "bags 1 100"),
                plain.replace("60 99", "0 1").replace("bags 1 3", "bags 1 100"),
                plain.replace("bags 1 3", "bags 1 100") + ";shift 1 0 0 1999",
                plain.replace("60 99", "0 99").replace("bags 1 3", "bags 0 100"),
                plain.replace("bags 1 3", "bags 0 100") + ";shift 1 0 0 1999")) {
            for (int time : new int[] {0, 2, 30, 200}) {
                for (String text : List.of(plain, kept, plain + ";lane 7 1;shift 3 3 0 1", kept + ";keep time=998",
                        plain.replace(WIDE, QUICK))) {
                    BaggageLoop x = at(old, time);
                    Check.load(x, Airports.NEXT_TEXT);
                    Check.load(x, text);
                    BaggageLoop fresh = Check.loaded(text);
                    for (int ticks : new int[] {1, 1, 1, 2, 20, 30, 30, 60}) {
                        x.advance(ticks);
                        fresh.advance(ticks);
                        due("after " + old, bagsAndFlights(x), bagsAndFlights(fresh));
                    }
                }
            }
        }
    }

    private static String bagsAndFlights(BaggageLoop x) {
        StringBuilder text = new StringBuilder(timetableOf(x) + " " + reportOf(x) + " " + mapOf(x));
        for (int bag = 0; bag < x.bags(); bag++) {
            text.append(' ').append(x.stateOf(bag)).append('/').append(x.isKept(bag)).append('/').append(x.laneOf(bag));
        }
        for (int percent = 1; percent <= 100; percent += 33) {
            text.append(' ').append(x.percentile(0, percent));
        }
        for (int queue = 1; queue <= 4; queue++) {
            for (int place = 0; place < x.waiting(queue); place++) {
                text.append(' ').append(x.queueAt(queue, place));
            }
        }
        return text.toString();
    }

    private static void emptyBuffer(BaggageLoop x) {
        spec.fails("load nothing", IAE, () -> x.load(0));
    }

    /** As many lines as there can be. */
    private static final String FULL_TEXT = "loop 20 3 4 level 4 3 500 level 4 2 500 level 4 1 500 hot 99 seed 99;flight 0 40 90"
            + ";flight 1 30 80;flight 2 20 70;flight 5 50 100;flight 6 60 99;flight 7 0 30;flight 8 0 20;flight 9 0 99"
            + ";lane 10 5;lane 11 20;lane 12 1;lane 13 20;bags 0 20 0;bags 0 20 1;bags 1 20 2;bags 2 10 3;bags 3 10 7"
            + ";bags 9 20 5;shift 1 1 0 9;shift 2 1 0 9;shift 3 1 0 9;shift 1 0 12 13;keep laps<1 and wait>20;keep load>18"
            + ";keep time=7";

    /** All lines and bags, everything changed, and all machines off shift and broken. */
    private static final Supplier<BaggageLoop> USED = () -> {
        BaggageLoop x = Check.loaded(FULL_TEXT.replace("0 9;", "0 1999;"));
        x.advance(99);
        for (int lane = 0; lane < 4; lane++) {
            x.block(lane, true);
        }
        for (int level = 1; level <= 3; level++) {
            for (int machine = 0; machine < 4; machine++) {
                x.breakMachine(level, machine, 999);
            }
        }
        x.stopLoop(999);
        x.setHot(999);
        return x;
    };

    private static String withoutErrors(String view) {
        return view.replaceAll("(parseError|errorPosition)=-?\\d+ ", "");
    }

    /** Texts that were written before are not a part of the airport. */
    private static String withoutTexts(String view) {
        return view.replaceAll("(reportByte|mapByte|timetableByte)=\\S+ ", "");
    }

    private static final String GOOD = Airports.NEXT_TEXT;
    /** A text for each of the codes 1 to 6, and the position of its error. */
    private static final String[] BAD = {GOOD + "#", GOOD.replace("loop 4", "loop 3"), GOOD + ";lane 2 1",
        GOOD + ";keep load<1".repeat(4), GOOD.substring(0, GOOD.indexOf(";")), GOOD + ";keep " + "not ".repeat(10) + "load<1"};
    private static final int[] BAD_AT = {GOOD.length(), 5, GOOD.length() + 6, GOOD.length() + 37, GOOD.indexOf(";"),
        GOOD.length() + 46};

    private static void parseError() {
        promise(4);
        says("Returns the parse error code of the latest call of load that did not throw IndexOutOfBoundsException.");
        BaggageLoop x = new BaggageLoop();
        for (int code = 1; code <= 6; code++) {
            String text = BAD[code - 1];
            spec.fails(text, IAE, () -> Check.load(x, text));
            due("code", x.parseError(), code);
            spec.fails("load too much", IOOBE, () -> x.load(1));
            spec.fails("load too little", IOOBE, () -> x.load(-1));
            due("the code stays", x.parseError(), code);
        }
        says("Returns the code 1 to 6; 0 if that call succeeded or if there was none.");
        Check.load(x, GOOD);
        due("succeeded", x.parseError(), 0);
        spec.fails("load too much", IOOBE, () -> x.load(1));
        due("it stays", x.parseError(), 0);
        BaggageLoop none = new BaggageLoop();
        due("none", none.parseError(), 0);
        spec.fails("load too much", IOOBE, () -> none.load(1));
        due("none that counts", none.parseError(), 0);
    }

    private static void errorPosition() {
        promise(5);
        BaggageLoop x = new BaggageLoop();
        says("Returns the position of the parse error of that call of load.");
        for (int code = 1; code <= 6; code++) {
            String text = BAD[code - 1];
            spec.fails(text, IAE, () -> Check.load(x, text));
            due("position of " + text, x.errorPosition(), BAD_AT[code - 1]);
            spec.fails("load too much", IOOBE, () -> x.load(1));
            due("the position stays", x.errorPosition(), BAD_AT[code - 1]);
        }
        says("Returns the position; NONE if parseError() is 0.");
        spec.fails("an error at 0", IAE, () -> Check.load(x, "#"));
        due("the position 0", x.errorPosition(), 0);
        Check.load(x, GOOD);
        due("succeeded", x.errorPosition(), -1);
        due("there was no load", new BaggageLoop().errorPosition(), -1);
        BaggageLoop full = new BaggageLoop();
        Check.fill(full, GOOD + " ".repeat(1199 - GOOD.length()) + ";");
        spec.fails("the last position", IAE, () -> full.load(1200));
        due("1200", full.errorPosition(), 1200);
    }

    private static void buffered() {
        promise(6);
        says("Returns the number of bytes in the input buffer.");
        BaggageLoop x = new BaggageLoop();
        due("none", x.buffered(), 0);
        x.append(0, 0, 0, 0, 0);
        due("20", x.buffered(), 20);
        spec.fails("load", IAE, () -> x.load(1));
        due("none again", x.buffered(), 0);
        says("Returns 0 to 1200.");
        for (int i = 1; i <= 62; i++) {
            x.append(0, 0, 0, 0, 0);
            due("after " + i, x.buffered(), Math.min(20 * i, 1200));
        }
    }

    // ---- bags

    private static void time() {
        promise(7);
        says("Returns the time.");
        BaggageLoop x = Check.loaded(Airports.RICH_TEXT);
        due("at first", x.time(), 0);
        x.advance(1);
        due("after a tick", x.time(), 1);
        says("Returns the number of ticks since the text was loaded; 0 if there is no airport.");
        due("no airport", new BaggageLoop().time(), 0);
        due("the greatest", Airports.late(9999).time(), 9999);
        x.advance(500);
        due("501", x.time(), 501);
        x.timeToClear(500);
        due("a question", x.time(), 501);
        x.undo();
        due("undone", x.time(), 1);
        Check.load(x, Airports.NEXT_TEXT);
        due("another text", x.time(), 0);
    }

    private static void bags() {
        promise(8);
        says("Returns the number of bags, those that have not arrived yet included.");
        due("of the text", Check.loaded(Airports.RICH_TEXT).bags(), 7);
        due("added ones", RICH.get().bags(), RICH_BAGS);
        says("Returns the number of bags; 0 if there is no airport.");
        due("no airport", new BaggageLoop().bags(), 0);
        due("no bags", NO_BAGS.get().bags(), 0);
        due("100", HUNDRED.get().bags(), 100);
    }

    /** What every call about a bag has: the number of the bag, and what is thrown. */
    private static void ofBag(String name) {
        says("- `bag`: number of the bag");
        calls.arguments(RICH, name, Calls.index(RICH_BAGS));
        calls.needsAirport(name);
        says(NO_BAG);
        for (int wrong : new int[] {0, -1, 1, MIN, MAX}) {
            spec.refused(name + " " + wrong + " of no bags", IOOBE, NO_BAGS, x -> Calls.call(x, name, wrong));
        }
        for (int wrong : new int[] {-1, 100, MIN, MAX}) {
            spec.refused(name + " " + wrong + " of 100", IOOBE, HUNDRED, x -> Calls.call(x, name, wrong));
        }
        Calls.call(HUNDRED.get(), name, 99);
    }

    private static void stateOf() {
        promise(9);
        says("Returns the state of a bag (section 2).");
        inStates("stateOf", x -> x.stateOf(0), 0, 1, 2, 3, 4, 5, 6, 7, 8, 9, 10, 11, 12, 13);
        ofBag("stateOf");
        says("Returns 0 to 13.");
        due("0", Airports.inState(0).stateOf(0), 0);
        due("13", Airports.inState(13).stateOf(0), 13);
    }

    private static void flightOf() {
        promise(10);
        says("Returns the flight of a bag.");
        int[] flights = {0, 0, 0, 1, 1, 2, 2};
        for (int bag = 0; bag < 7; bag++) {
            due("flightOf " + bag, Check.loaded(Airports.RICH_TEXT).flightOf(bag), flights[bag]);
        }
        ofBag("flightOf");
        says("Returns the number of the flight.");
        due("the last flight", EIGHT.get().flightOf(0), 7);
        due("rerouted", RICH.get().flightOf(5), 0);
    }

    private static void arrivalOf() {
        promise(11);
        says("Returns the time at which a bag arrives.");
        int[] arrivals = {0, 0, 0, 1, 1, 4, 4};
        for (int bag = 0; bag < 7; bag++) {
            due("arrivalOf " + bag, Check.loaded(Airports.RICH_TEXT).arrivalOf(bag), arrivals[bag]);
        }
        ofBag("arrivalOf");
        says("Returns the time.");
        BaggageLoop last = Airports.late(9999);
        last.addBags(999, 1, 0);
        due("the latest", last.arrivalOf(1), 10998);
        due("of the text", Check.loaded("loop 4 0 1" + QUICK + ";flight 2 0 9;bags 999 1 0").arrivalOf(0), 999);
    }

    private static void positionOf() {
        promise(12);
        says("Returns where a bag is on the loop.");
        for (int time = 2; time < 14; time++) {
            due("at " + time, at("loop 10 4 5" + QUICK + ";flight 1 900 999;bags 1 1 0", time).positionOf(0), (2 + time) % 10);
        }
        ofBag("positionOf");
        says("Returns the position; NONE if it is not on the loop.");
        inStates("positionOf", x -> x.positionOf(0), -1, -1, -1, -1, -1, -1, -1, -1, 0, -1, -1, -1, -1, -1);
    }

    private static void lapsOf() {
        promise(13);
        says("Returns the number of laps of a bag (section 4).");
        String round = "loop 4 3 0" + QUICK + ";flight 1 900 999;lane 2 1;bags 1 1 0;keep laps<3";
        int[][] laps = {{0, 0}, {2, 0}, {5, 0}, {6, 1}, {9, 1}, {10, 2}, {13, 2}, {14, 3}, {16, 3}};
        for (int[] l : laps) {
            due("at " + l[0], at(round, l[0]).lapsOf(0), l[1]);
        }
        ofBag("lapsOf");
        says("Returns the number of laps.");
        inStates("lapsOf", x -> x.lapsOf(0), 0, 0, 0, 0, 0, 0, 0, 0, 0, 0, 0, 0, 0, 0);
        due("in a lane", at(round, 17).stateOf(0) * 100 + at(round, 17).lapsOf(0), 903);
        due("many", at("loop 4 3 0" + QUICK + ";flight 1 0 1;bags 1 1 0".replace("0 1;", "998 1999;"), 902).lapsOf(0), 225);
    }

    private static void levelOf() {
        promise(14);
        says("Returns the highest screening level that a bag has begun.");
        inStates("levelOf", x -> x.levelOf(0), 0, 0, 1, 1, 2, 2, 3, 1, 3, 3, 3, 1, 3, 3);
        ofBag("levelOf");
        says("Returns 1 to 3; 0 if there was none.");
        due("none", Airports.inState(1).levelOf(0), 0);
        due("1", Airports.inState(2).levelOf(0), 1);
        due("3", Airports.inState(6).levelOf(0), 3);
    }

    private static void laneOf() {
        promise(15);
        says("Returns the lane in which a bag is stored.");
        BaggageLoop lanes = at("loop 10 0 5" + WIDE + ";flight 9 900 999;lane 1 1;lane 2 1;lane 3 1;lane 4 1;bags 1 5 0", 20);
        for (int bag = 0; bag < 4; bag++) {
            due("laneOf " + bag, lanes.laneOf(bag), bag);
        }
        ofBag("laneOf");
        says("Returns the number of the lane; NONE if it is not stored.");
        inStates("laneOf", x -> x.laneOf(0), -1, -1, -1, -1, -1, -1, -1, -1, -1, 0, -1, -1, -1, -1);
        due("the fifth bag", lanes.laneOf(4), -1);
        for (int bag = 0; bag < 30; bag++) {
            int lane = bag == 0 ? 0 : bag <= 20 ? 1 : bag == 21 ? 2 : bag == 22 ? 3 : -1;
            due("laneOf " + bag, FOUR_LANES.get().laneOf(bag), lane);
        }
    }

    private static void ticksTo() {
        promise(16);
        says("Returns after how many moves of the loop a bag stands at the position of its flight.");
        for (int flight = 0; flight < 4; flight++) {
            if (flight != 1 && flight != 3) {
                BaggageLoop x = at("loop 4 3 1" + QUICK + ";flight " + flight + " 900 999;bags 1 1 0", 2);
                for (int moves = 0; moves < 9; moves++) {
                    due("flight " + flight + " after " + moves, x.ticksTo(0), Math.floorMod(flight - 3 - moves, 4));
                    x.advance(1);
                }
            }
        }
        ofBag("ticksTo");
        says("Returns 0 to LENGTH - 1; NONE if the bag is not on the loop.");
        inStates("ticksTo", x -> x.ticksTo(0), -1, -1, -1, -1, -1, -1, -1, -1, 3, -1, -1, -1, -1, -1);
        String forty = "loop 40 0 5" + QUICK + ";flight 39 900 999;bags 1 1 0";
        due("39", at(forty, 2).ticksTo(0), 39);
        due("0", at(forty, 41).ticksTo(0), 0);
        due("39 again", at(forty, 42).ticksTo(0), 39);
    }

    private static void finishedAt() {
        promise(17);
        says("Returns when a bag came into its state 10, 11, 12 or 13.");
        due("loaded", at("loop 10 0 5" + QUICK + ";flight 3 0 99;bags 1 1 0", 500).finishedAt(0), 5);
        due("offloaded", Airports.inState(13).finishedAt(0), 41);
        BaggageLoop off = Airports.inState(10);
        off.advance(9);
        off.offload(0);
        due("offloaded later", off.finishedAt(0), 50);
        ofBag("finishedAt");
        says("Returns the time; NONE if it is in another state.");
        inStates("finishedAt", x -> x.finishedAt(0), -1, -1, -1, -1, -1, -1, -1, -1, -1, -1, 41, 7, 11, 41);
    }

    private static void isHot() {
        promise(18);
        says("Tells whether a bag is hot now (section 3).");
        String hot = "loop 10 0 5" + QUICK.replace("hot 0", "hot 20") + ";flight 3 0 60;bags 999 1 0";
        due("21 before CLOSE", at(hot, 39).isHot(0), false);
        due("20 before CLOSE", at(hot, 40).isHot(0), true);
        BaggageLoop delayed = at(hot, 40);
        delayed.delay(0, 1);
        due("delayed", delayed.isHot(0), false);
        ofBag("isHot");
        says("Returns true if it is, whatever its state is.");
        for (int state = 0; state < 14; state++) {
            BaggageLoop x = Airports.inState(state);
            int left = x.closeOf(0) - x.time();
            x.setHot(Math.max(left, 0));
            due("hot in state " + state, x.isHot(0), true);
            if (left > 0) {
                x.setHot(left - 1);
                due("not hot in state " + state, x.isHot(0), false);
            }
        }
    }

    private static void isKept() {
        promise(19);
        says("Tells whether a keep line holds for a bag now (section 4).");
        String keep = "loop 10 0 5" + QUICK + ";flight 3 50 99;bags 1 1 0";
        due("no keep line", at(keep, 5).isKept(0), false);
        due("one that holds", at(keep + ";keep time=5", 5).isKept(0), true);
        due("one that does not", at(keep + ";keep time=5", 6).isKept(0), false);
        due("the third holds", at(keep + ";keep time=1;keep time=2;keep time=5", 5).isKept(0), true);
        ofBag("isKept");
        says("Returns true if one does, whatever the state of the bag is.");
        for (int state = 0; state < 14; state++) {
            BaggageLoop x = Airports.inState(state);
            due("no line in state " + state, x.isKept(0), false);
            due("a line in state " + state, keptInState(state, "keep time<9999"), true);
            due("a line in state " + state, keptInState(state, "keep time>9998"), false);
        }
    }

    /** Whether a keep line holds for bag 0, which is in a state. A bag that is kept is not stored: the line holds later. */
    private static boolean keptInState(int state, String keep) {
        String line = state == 9 ? keep.replace("time<9999", "time>12") : keep;
        String alarms = state == 12 ? "1 1 1000" : "1 1 0";
        String times = state == 10 || state == 13 ? "0 99" : state == 11 ? "0 1" : "900 999";
        String text = "loop 10 0 5 level 1 1 1000 level 1 1 1000 level " + alarms + " hot 0 seed 0;flight 3 " + times
                + ";bags 2 1 0;shift 1 0 2 3;shift 2 0 5 6;shift 3 0 8 9;lane 1 9;" + line;
        if (state == 7) {
            text = "loop 10 0 5" + WIDE + ";flight 3 0 99;flight 4 0 98;bags 1 1 0;bags 1 1 1;" + line;
        }
        int[] when = {1, 2, 4, 5, 7, 8, 10, 2, 11, 13, 14, 30, 11, 14};
        BaggageLoop x = at(text, when[state]);
        if (state == 13) {
            x.offload(0);
        }
        due("the state", x.stateOf(0), state);
        return x.isKept(0);
    }

    // ---- the loop, the queues and the lanes

    private static void bagAt() {
        promise(20);
        says("Returns the bag at a position of the loop.");
        BaggageLoop x = at("loop 4 0 1" + WIDE + ";flight 2 900 999;bags 1 3 0", 4);
        int[] bags = {2, 1, 0, -1};
        for (int position = 0; position < 4; position++) {
            due("bagAt " + position, x.bagAt(position), bags[position]);
        }
        says("- `position`: 0 to LENGTH - 1");
        calls.arguments(RICH, "bagAt", Calls.index(9));
        calls.arguments(EIGHT, "bagAt", Calls.index(10));
        says("Returns the number of the bag; NONE if the position is free.");
        due("free", x.bagAt(3), -1);
        x.advance(1);
        due("free now", x.bagAt(0), -1);
        due("the last position", x.bagAt(3), 0);
        due("bag 99", bag99().bagAt(0), 99);
        calls.needsAirport("bagAt");
        says("Throws `IndexOutOfBoundsException` if there is no such position");
        for (int length : new int[] {4, 40}) {
            BaggageLoop y = Check.loaded("loop " + length + " 0 1" + QUICK + ";flight 2 0 9");
            due("the last one of " + length, y.bagAt(length - 1), -1);
            spec.fails("one more than " + length, IOOBE, () -> y.bagAt(length));
            spec.fails("-1", IOOBE, () -> y.bagAt(-1));
        }
    }

    private static void loopLoad() {
        promise(21);
        says("Returns the number of bags on the loop.");
        String fills = "loop 4 0 1" + WIDE + ";flight 2 900 999;bags 1 6 0";
        int[] loads = {0, 0, 1, 2, 3, 4, 4, 4};
        for (int time = 0; time < loads.length; time++) {
            due("at " + time, at(fills, time).loopLoad(), loads[time]);
        }
        says("Returns the number of bags; 0 if there is no airport.");
        due("no airport", new BaggageLoop().loopLoad(), 0);
        due("no bags", NO_BAGS.get().loopLoad(), 0);
        due("40", at("loop 40 0 1" + WIDE + ";flight 2 900 999;bags 1 60 0", 99).loopLoad(), 40);
    }

    /** 100 bags, of which number 99 goes first and is at ENTRY at 2. */
    private static BaggageLoop bag99() {
        return at("loop 10 0 1" + WIDE + ";flight 2 900 999;flight 3 900 998;bags 1 99 0;bags 1 1 1", 2);
    }

    private static void waiting() {
        promise(22);
        says("Returns the number of bags in a queue.");
        inStates("waiting 1", x -> x.waiting(1), 0, 1, 0, 0, 0, 0, 0, 0, 0, 0, 0, 0, 0, 0);
        inStates("waiting 2", x -> x.waiting(2), 0, 0, 0, 1, 0, 0, 0, 0, 0, 0, 0, 0, 0, 0);
        inStates("waiting 3", x -> x.waiting(3), 0, 0, 0, 0, 0, 1, 0, 0, 0, 0, 0, 0, 0, 0);
        inStates("waiting 4", x -> x.waiting(4), 0, 0, 0, 0, 0, 0, 0, 1, 0, 0, 0, 0, 0, 0);
        says("- `queue`: 1 to 3: the queue of a screening level; 4: the queue of the loop");
        calls.arguments(RICH, "waiting", Calls.number(1, 4));
        says("Returns the number of bags.");
        due("none", NO_BAGS.get().waiting(1), 0);
        due("100", HUNDRED.get().waiting(1), 100);
        calls.needsAirport("waiting");
        says("Throws `IllegalArgumentException` if queue is out of range");
        for (int wrong : new int[] {0, 5, 7, -1, MIN, MAX, MIN / 2, MIN + 1}) {
            spec.refused("waiting " + wrong, IAE, HUNDRED, x -> x.waiting(wrong));
        }
    }

    private static void queueAt() {
        promise(23);
        says("Returns a bag of a queue by its place (section 3).");
        for (int place = 0; place < 100; place++) {
            due("place " + place, HUNDRED.get().queueAt(1, place), place);
        }
        says("- `queue`: 1 to 3: the queue of a screening level; 4: the queue of the loop");
        int[] states = {0, 1, 3, 5, 7};
        for (int queue = 1; queue <= 4; queue++) {
            BaggageLoop x = Airports.inState(states[queue]);
            for (int other = 1; other <= 4; other++) {
                int q = other;
                if (q == queue) {
                    due("queueAt " + q, x.queueAt(q, 0), 0);
                } else {
                    spec.fails("queueAt " + q, IOOBE, () -> x.queueAt(q, 0));
                }
            }
        }
        says("- `place`: from 0");
        spec.fails("-1", IOOBE, () -> HUNDRED.get().queueAt(1, -1));
        due("0", HUNDRED.get().queueAt(1, 0), 0);
        says("Returns the number of the bag.");
        due("the last one", HUNDRED.get().queueAt(1, 99), 99);
        calls.needsAirport("queueAt");
        says("Throws `IndexOutOfBoundsException` if place is negative or not less than the number of bags in the queue (also "
                + "if there is no such queue)");
        for (int queue : new int[] {1, 2, 3, 4, 0, 5, -1, MIN, MAX, MIN / 2 + 1, 50}) {
            for (int place : new int[] {0, 99, 100, -1, MIN, MAX}) {
                if (queue != 1 || place < 0 || place > 99) {
                    spec.refused("queueAt " + queue + " " + place, IOOBE, HUNDRED, x -> x.queueAt(queue, place));
                }
            }
        }
        spec.refused("an empty queue", IOOBE, NO_BAGS, x -> x.queueAt(1, 0));
        for (int state = 0; state < 14; state++) {
            for (int queue : new int[] {-1, 0, 5, 6, 7}) {
                BaggageLoop x = Airports.inState(state);
                spec.fails("queue " + queue + " with a bag in state " + state, IOOBE, () -> x.queueAt(queue, 0));
            }
        }
    }

    private static void levelAndMachine(String name, Object... more) {
        says("- `level`: 1 to 3");
        int[] machines = {0, 2, 1, 3, 0};
        for (int level : new int[] {0, 1, 2, 3, 4, -1, MIN, MAX}) {
            for (int machine : new int[] {0, 1, 2, 3, 4, -1, MIN, MAX}) {
                boolean there = level >= 1 && level <= 3 && machine >= 0 && machine < machines[level];
                String what = name + " " + level + " " + machine;
                if (there) {
                    spec.fails(what, null, () -> Calls.call(RICH.get(), name, with(level, machine, more)));
                } else {
                    spec.refused(what, IOOBE, RICH, x -> Calls.call(x, name, with(level, machine, more)));
                }
            }
        }
        says("- `machine`: from 0");
        spec.fails(name + " 3 2", null, () -> Calls.call(RICH.get(), name, with(3, 2, more)));
        spec.fails(name + " 3 3", IOOBE, () -> Calls.call(RICH.get(), name, with(3, 3, more)));
        spec.fails(name + " 3 -1", IOOBE, () -> Calls.call(RICH.get(), name, with(3, -1, more)));
    }

    private static Object[] with(int level, int machine, Object[] more) {
        Object[] all = new Object[2 + more.length];
        all[0] = level;
        all[1] = machine;
        System.arraycopy(more, 0, all, 2, more.length);
        return all;
    }

    private static void machineAt() {
        promise(24);
        says("Returns the bag in a screening machine.");
        BaggageLoop x = at("loop 10 0 5 level 4 9 0 level 4 1 0 level 4 1 0 hot 0 seed 0;flight 3 0 99;bags 1 3 0", 1);
        for (int machine = 0; machine < 4; machine++) {
            due("machine " + machine, x.machineAt(1, machine), machine < 3 ? machine : -1);
        }
        inStates("machineAt 1 0", y -> y.machineAt(1, 0), -1, -1, 0, -1, -1, -1, -1, -1, -1, -1, -1, -1, -1, -1);
        inStates("machineAt 2 0", y -> y.machineAt(2, 0), -1, -1, -1, -1, 0, -1, -1, -1, -1, -1, -1, -1, -1, -1);
        inStates("machineAt 3 0", y -> y.machineAt(3, 0), -1, -1, -1, -1, -1, -1, 0, -1, -1, -1, -1, -1, -1, -1);
        levelAndMachine("machineAt");
        says("Returns the number of the bag; NONE if the machine is free.");
        due("free", NO_BAGS.get().machineAt(1, 0), -1);
        due("bag 99", at("loop 10 0 1" + WIDE + ";flight 2 900 999;flight 3 900 998;bags 1 99 0;bags 1 1 1", 1).machineAt(1, 0), 99);
        calls.needsAirport("machineAt");
        says(NO_MACHINE);
        for (int machines : new int[] {1, 4}) {
            BaggageLoop y = Check.loaded("loop 10 0 5 level " + machines + " 1 0 level 1 1 0 level 1 1 0 hot 0 seed 0;flight 3 0 9");
            due("the last one", y.machineAt(1, machines - 1), -1);
            spec.fails("one more", IOOBE, () -> y.machineAt(1, machines));
            spec.fails("level 0", IOOBE, () -> y.machineAt(0, 0));
            spec.fails("level 4", IOOBE, () -> y.machineAt(4, 0));
        }
    }

    private static void brokenUntil() {
        promise(25);
        says("Returns how long a machine is broken.");
        BaggageLoop b = RICH.get();
        due("1 1", b.brokenUntil(1, 1), 20);
        due("1 0", b.brokenUntil(1, 0), 0);
        for (int level = 1; level <= 3; level++) {
            for (int machine = 0; machine < (level == 1 ? 2 : level == 2 ? 1 : 3); machine++) {
                BaggageLoop y = Check.loaded(Airports.RICH_TEXT);
                y.breakMachine(level, machine, 5);
                due("broken " + level + " " + machine, y.brokenUntil(level, machine), 5);
                due("only this one", y.brokenUntil(1, 0) + y.brokenUntil(1, 1) + y.brokenUntil(2, 0) + y.brokenUntil(3, 0)
                        + y.brokenUntil(3, 1) + y.brokenUntil(3, 2), 5);
            }
        }
        levelAndMachine("brokenUntil");
        says("Returns the time of the last tick in which it is broken, also if this is over; 0 if it never was.");
        b.advance(2);
        due("before", b.brokenUntil(1, 1), 20);
        b.advance(1);
        due("the last tick", b.brokenUntil(1, 1), 20);
        b.advance(300);
        due("over", b.brokenUntil(1, 1), 20);
        due("never", b.brokenUntil(3, 2), 0);
        due("off shift", at(Airports.RICH_TEXT, 4).brokenUntil(1, 1), 0);
        BaggageLoop last = Airports.late(9999);
        last.breakMachine(1, 0, 999);
        due("the latest", last.brokenUntil(1, 0), 10998);
        b.undo();
        b.undo();
        b.undo();
        due("undo of ticks leaves it", b.brokenUntil(1, 1), 20);
        calls.needsAirport("brokenUntil");
        says(NO_MACHINE);
        spec.refused("level 0", IOOBE, NO_BAGS, y -> y.brokenUntil(0, 0));
        spec.refused("level 4", IOOBE, NO_BAGS, y -> y.brokenUntil(4, 0));
        spec.refused("machine 1 of 1", IOOBE, NO_BAGS, y -> y.brokenUntil(3, 1));
    }

    private static void stoppedUntil() {
        promise(26);
        says("Returns the time of the last tick in which the loop is stopped by the latest call of stopLoop that holds in this "
                + "state (with 0, the time of that call).");
        BaggageLoop x = at(Airports.RICH_TEXT, 7);
        x.stopLoop(20);
        due("20 ticks", x.stoppedUntil(), 27);
        x.stopLoop(3);
        due("the latest call", x.stoppedUntil(), 10);
        x.stopLoop(0);
        due("with 0", x.stoppedUntil(), 7);
        x.undo();
        due("undone", x.stoppedUntil(), 10);
        x.save(0);
        x.undo();
        due("undone again", x.stoppedUntil(), 27);
        x.undo();
        due("no call holds", x.stoppedUntil(), 0);
        x.restore(0);
        due("restored", x.stoppedUntil(), 10);
        says("Returns that time, also if it is over; 0 if there was no such call, or if there is no airport.");
        x.advance(3);
        due("the last tick", x.stoppedUntil(), 10);
        x.advance(100);
        due("over", x.stoppedUntil(), 10);
        due("no such call", at(Airports.RICH_TEXT, 7).stoppedUntil(), 0);
        due("no airport", new BaggageLoop().stoppedUntil(), 0);
        Check.load(x, Airports.NEXT_TEXT);
        due("another text", x.stoppedUntil(), 0);
        BaggageLoop first = Check.loaded(Airports.RICH_TEXT);
        first.stopLoop(0);
        due("with 0 at the time 0", first.stoppedUntil(), 0);
        BaggageLoop last = Airports.late(9999);
        last.stopLoop(999);
        due("the latest", last.stoppedUntil(), 10998);
    }

    private static final Supplier<BaggageLoop> FOUR_LANES = () -> at("loop 10 0 5" + WIDE
            + ";flight 9 900 999;lane 1 1;lane 2 20;lane 3 1;lane 4 1;bags 1 30 0", 60);

    private static void lanes() {
        promise(27);
        says("Returns the number of lanes.");
        due("2", RICH.get().lanes(), 2);
        says("Returns the number of lanes; 0 if there is no airport.");
        due("no airport", new BaggageLoop().lanes(), 0);
        due("no lanes", NO_BAGS.get().lanes(), 0);
        due("4", FOUR_LANES.get().lanes(), 4);
    }

    private static void laneSize() {
        promise(28);
        says("Returns the number of bags in a lane.");
        int[] sizes = {1, 20, 1, 1};
        for (int lane = 0; lane < 4; lane++) {
            due("lane " + lane, FOUR_LANES.get().laneSize(lane), sizes[lane]);
        }
        says("- `lane`: number of the lane");
        calls.arguments(RICH, "laneSize", Calls.index(2));
        calls.arguments(FOUR_LANES, "laneSize", Calls.index(4));
        says("Returns the number of bags.");
        due("empty", Check.loaded(Airports.RICH_TEXT).laneSize(0), 0);
        due("full", FOUR_LANES.get().laneSize(1), 20);
        calls.needsAirport("laneSize");
        says(NO_LANE);
        spec.refused("no lanes", IOOBE, NO_BAGS, x -> x.laneSize(0));
    }

    private static void laneAt() {
        promise(29);
        says("Returns a bag in a lane.");
        due("lane 0", FOUR_LANES.get().laneAt(0, 0), 0);
        due("lane 2", FOUR_LANES.get().laneAt(2, 0), 21);
        due("lane 3", FOUR_LANES.get().laneAt(3, 0), 22);
        says("- `lane`: number of the lane");
        for (int lane : new int[] {-1, 4, MIN, MAX}) {
            for (int place : new int[] {0, -1, MIN, MAX}) {
                spec.refused("laneAt " + lane + " " + place, IOOBE, FOUR_LANES, x -> x.laneAt(lane, place));
            }
        }
        says("- `place`: from 0, which is the first one to leave");
        BaggageLoop leaves = at("loop 10 0 5" + WIDE + ";flight 9 20 99;lane 2 5;bags 1 3 0", 19);
        due("the first", leaves.laneAt(0, 0), 0);
        leaves.advance(1);
        due("left", leaves.positionOf(0), 2);
        due("the next", leaves.laneAt(0, 0) * 10 + leaves.laneAt(0, 1), 12);
        spec.fails("one less", IOOBE, () -> leaves.laneAt(0, 2));
        says("Returns the number of the bag.");
        for (int place = 0; place < 20; place++) {
            due("place " + place, FOUR_LANES.get().laneAt(1, place), place + 1);
        }
        calls.needsAirport("laneAt");
        says("Throws `IndexOutOfBoundsException` if there is no such lane or place");
        int[] wrong = {1, 20, 1, 1};
        for (int lane = 0; lane < 4; lane++) {
            int l = lane;
            for (int place : new int[] {wrong[lane], -1, MIN, MAX}) {
                spec.refused("laneAt " + lane + " " + place, IOOBE, FOUR_LANES, x -> x.laneAt(l, place));
            }
        }
        spec.refused("an empty lane", IOOBE, Airports.FRESH, x -> x.laneAt(0, 0));
        spec.refused("no lanes", IOOBE, NO_BAGS, x -> x.laneAt(0, 0));
    }

    private static void keeps() {
        promise(30);
        says("Returns the number of keep lines.");
        due("1", RICH.get().keeps(), 1);
        says("Returns the number of keep lines; 0 if there is no airport.");
        due("no airport", new BaggageLoop().keeps(), 0);
        due("none", NO_BAGS.get().keeps(), 0);
        due("3", Check.loaded(Airports.NEXT_TEXT + ";keep load<1".repeat(3)).keeps(), 3);
    }

    // ---- flights

    private static void ofFlight(String name) {
        says("- `flight`: number of the flight");
        calls.arguments(RICH, name, Calls.index(3));
        calls.needsAirport(name);
        says(NO_FLIGHT);
        calls.arguments(EIGHT, name, Calls.index(8));
        calls.arguments(NO_BAGS, name, Calls.index(1));
    }

    private static void flights() {
        promise(31);
        says("Returns the number of flights.");
        due("3", RICH.get().flights(), 3);
        says("Returns the number of flights; 0 if there is no airport.");
        due("no airport", new BaggageLoop().flights(), 0);
        due("1", NO_BAGS.get().flights(), 1);
        due("8", EIGHT.get().flights(), 8);
    }

    private static void flightState() {
        promise(32);
        says("Returns the state of a flight.");
        int[] states = {1, 1, 1, 1, 1, 1, 1, 0};
        for (int flight = 0; flight < 8; flight++) {
            due("flight " + flight, EIGHT.get().flightState(flight), states[flight]);
        }
        ofFlight("flightState");
        says("Returns 0: it is not open yet; 1: it is open; 2: it is closed.");
        int[][] times = {{0, 0}, {21, 0}, {22, 1}, {59, 1}, {60, 2}, {999, 2}};
        for (int[] t : times) {
            due("at " + t[0], at(Airports.RICH_TEXT, t[0]).flightState(0), t[1]);
        }
        BaggageLoop delayed = at(Airports.RICH_TEXT, 21);
        delayed.delay(0, 1);
        delayed.advance(1);
        due("delayed before OPEN", delayed.flightState(0), 0);
        delayed.advance(38);
        due("delayed before CLOSE", delayed.flightState(0), 1);
        delayed.advance(1);
        due("delayed CLOSE", delayed.flightState(0), 2);
    }

    private static void openOf() {
        promise(33);
        says("Returns when a flight opens.");
        int[] opens = {22, 30, 0};
        for (int flight = 0; flight < 3; flight++) {
            due("flight " + flight, Check.loaded(Airports.RICH_TEXT).openOf(flight), opens[flight]);
        }
        ofFlight("openOf");
        says("Returns OPEN.");
        due("0", NO_BAGS.get().openOf(0), 0);
        due("999", EIGHT.get().openOf(7), 999);
        due("delayed", RICH.get().openOf(1), 33);
    }

    private static void closeOf() {
        promise(34);
        says("Returns when a flight closes.");
        int[] closes = {60, 31, 40};
        for (int flight = 0; flight < 3; flight++) {
            due("flight " + flight, Check.loaded(Airports.RICH_TEXT).closeOf(flight), closes[flight]);
        }
        ofFlight("closeOf");
        says("Returns CLOSE.");
        due("1", Check.loaded("loop 4 0 1" + QUICK + ";flight 2 0 1").closeOf(0), 1);
        due("1999", EIGHT.get().closeOf(7), 1999);
        due("delayed", RICH.get().closeOf(1), 34);
    }

    private static void countOf() {
        promise(35);
        says("Returns the number of bags of a flight in a state.");
        for (int state = 0; state < 14; state++) {
            BaggageLoop x = Airports.inState(state);
            for (int asked = 0; asked < 14; asked++) {
                due("state " + state + " countOf " + asked, x.countOf(0, asked), asked == state ? 1 : 0);
            }
        }
        says("- `flight`: number of the flight");
        calls.arguments(RICH, "countOf", Calls.index(3), Calls.number(0, 13));
        says("- `state`: 0 to 13");
        for (int state = 0; state < 14; state++) {
            due("no bags in " + state, NO_BAGS.get().countOf(0, state), 0);
        }
        says("Returns the number of bags.");
        due("100", HUNDRED.get().countOf(0, 1), 100);
        due("0", HUNDRED.get().countOf(0, 2), 0);
        due("of another flight", EIGHT.get().countOf(0, 1), 0);
        due("of flight 7", EIGHT.get().countOf(7, 1), 1);
        calls.needsAirport("countOf");
        says(NO_FLIGHT);
        calls.arguments(EIGHT, "countOf", Calls.index(8), Calls.number(0, 13));
        says("Throws `IllegalArgumentException` if state is out of range");
        spec.refused("-1", IAE, HUNDRED, x -> x.countOf(0, -1));
        spec.refused("14", IAE, HUNDRED, x -> x.countOf(0, 14));
    }

    private static void missing() {
        promise(36);
        says("Returns the number of bags of a flight that are in none of the states 10 to 13.");
        inStates("missing", x -> x.missing(0), 1, 1, 1, 1, 1, 1, 1, 1, 1, 1, 0, 0, 0, 0);
        ofFlight("missing");
        says("Returns the number of bags.");
        due("no bags", NO_BAGS.get().missing(0), 0);
        due("100", HUNDRED.get().missing(0), 100);
        due("of flight 7", EIGHT.get().missing(7) * 10 + EIGHT.get().missing(0), 10);
    }

    private static void loadedShare() {
        promise(37);
        says("Returns which part of the bags of a flight is loaded.");
        inStates("loadedShare", x -> x.loadedShare(0), 0f, 0f, 0f, 0f, 0f, 0f, 0f, 0f, 0f, 0f, 1f, 0f, 0f, 0f);
        ofFlight("loadedShare");
        says("Returns the number of its bags in state 10, as a float, divided by the number of its bags, as a float; 0 if it "
                + "has no bags.");
        due("no bags", NO_BAGS.get().loadedShare(0), 0.0f);
        due("no bags of flight 0", EIGHT.get().loadedShare(0), 0.0f);
        // Bag k is loaded at 5 + k.
        for (int bags : new int[] {1, 3, 7, 100}) {
            BaggageLoop x = at("loop 10 0 5" + WIDE + ";flight 3 0 999;bags 1 " + bags + " 0", 4);
            for (int loaded = 0; loaded <= bags; loaded++) {
                due(loaded + " of " + bags, x.loadedShare(0), (float) loaded / (float) bags);
                x.advance(1);
            }
        }
    }

    private static void percentile() {
        promise(38);
        says("Returns a percentile of the times from arrival to loading (finishedAt minus arrivalOf) of the loaded bags of a "
                + "flight: with these n times in ascending order, the one with the number percent * n / 100, rounded up, "
                + "counted from 1.");
        // Bag k is loaded at 5 + k, 4 + k after its arrival; the other flight has times of its own.
        for (int n : new int[] {1, 2, 3, 50, 90, 98}) {
            BaggageLoop x = at("loop 10 0 5" + WIDE + ";flight 3 0 999;flight 4 0 1000;bags 1 " + n + " 0;bags 2 1 1", 200);
            for (int percent = 1; percent <= 100; percent++) {
                int number = 1;
                while (100 * number < percent * n) {
                    number++;
                }
                due("percent " + percent + " of " + n, x.percentile(0, percent), 3 + number);
            }
        }
        due("100 of 100", at("loop 10 0 5" + WIDE + ";flight 3 0 999;bags 1 100 0", 200).percentile(0, 100), 103);
        due("1 of 100", at("loop 10 0 5" + WIDE + ";flight 3 0 999;bags 1 100 0", 200).percentile(0, 1), 4);
        // In ascending order, not in that of the numbers: bag 1 goes first and needs 4, bag 0 needs 5.
        String other = "loop 10 0 5" + WIDE + ";flight 3 0 999;bags 1 1 0;bags 9 1 0";
        BaggageLoop y = at(other, 5);
        y.advance(20);
        due("equal times", y.percentile(0, 50) * 100 + y.percentile(0, 100), 404);
        BaggageLoop z = Check.loaded(other);
        z.stopLoop(7);
        z.advance(40);
        due("the shorter one is bag 1", z.percentile(0, 50) * 100 + z.percentile(0, 51), (z.finishedAt(1) - 9) * 100
                + z.finishedAt(0) - 1);
        due("which is shorter", z.finishedAt(1) - 9 < z.finishedAt(0) - 1, true);
        says("- `flight`: number of the flight");
        calls.arguments(RICH, "percentile", Calls.index(3), Calls.number(1, 100));
        // A bag that arrives at 0 begins with the tick to 1: it needs 5, bag 1 needs 4.
        BaggageLoop falling = at("loop 10 0 5" + WIDE + ";flight 3 0 999;bags 0 1 0;bags 9 1 0", 40);
        due("5 and 4", falling.percentile(0, 50) * 10 + falling.percentile(0, 51), 45);
        says("- `percent`: 1 to 100");
        due("1", RICH.get().percentile(2, 1), 9);
        due("100", RICH.get().percentile(2, 100), 9);
        says("Returns the time; NONE if n is 0.");
        inStates("percentile", x -> x.percentile(0, 1), -1, -1, -1, -1, -1, -1, -1, -1, -1, -1, 39, -1, -1, -1);
        inStates("percentile", x -> x.percentile(0, 100), -1, -1, -1, -1, -1, -1, -1, -1, -1, -1, 39, -1, -1, -1);
        due("no bags", NO_BAGS.get().percentile(0, 50), -1);
        calls.needsAirport("percentile");
        says(NO_FLIGHT);
        calls.arguments(EIGHT, "percentile", Calls.index(8), Calls.number(1, 100));
        says("Throws `IllegalArgumentException` if percent is out of range");
        for (int wrong : new int[] {0, 101, -1, MIN, MAX}) {
            spec.refused("percent " + wrong, IAE, NO_BAGS, x -> x.percentile(0, wrong));
        }
    }

    private static void worstFlight() {
        promise(39);
        says("Returns a flight by the number of its short bags: greater numbers first, of equal ones the flight with more "
                + "missing bags, then the smaller number.");
        // Flights 0 and 3 have one missing bag, 1 has two, 2 has one short bag, 4 has two short bags, 5 has none.
        String text = "loop 20 0 5" + WIDE + ";flight 1 900 999;flight 2 900 999;flight 3 0 1;flight 4 900 999;flight 6 0 1"
                + ";flight 7 900 999;bags 99 1 0;bags 99 2 1;bags 1 1 2;bags 99 1 3;bags 1 2 4";
        int[][] orders = {{1, 4, 0, 2, 3, 5}, {4, 2, 1, 0, 3, 5}};
        int[] times = {0, 50};
        for (int i = 0; i < 2; i++) {
            BaggageLoop x = at(text, times[i]);
            for (int rank = 0; rank < 6; rank++) {
                due("rank " + rank + " at " + times[i], x.worstFlight(rank), orders[i][rank]);
            }
        }
        says("- `rank`: from 0");
        for (int rank = 0; rank < 8; rank++) {
            due("rank " + rank + " of 8", EIGHT.get().worstFlight(rank), rank == 0 ? 7 : rank - 1);
        }
        says("Returns the number of the flight.");
        due("the only one", NO_BAGS.get().worstFlight(0), 0);
        calls.needsAirport("worstFlight");
        says("Throws `IndexOutOfBoundsException` if rank is negative or not less than the number of flights");
        calls.arguments(RICH, "worstFlight", Calls.index(3));
        calls.arguments(EIGHT, "worstFlight", Calls.index(8));
        calls.arguments(NO_BAGS, "worstFlight", Calls.index(1));
    }

    // ---- the log and the report

    private static void events() {
        promise(40);
        says("Returns the number of events that are kept.");
        inStates("events", x -> x.events(), 0, 0, 0, 0, 0, 0, 0, 0, 0, 1, 2, 1, 1, 3);
        says("Returns 0 to 300; 0 if there is no airport.");
        due("no airport", new BaggageLoop().events(), 0);
        due("no event", NO_BAGS.get().events(), 0);
        due("300", FULL_LOG.get().events(), 300);
        BaggageLoop more = FULL_LOG.get();
        more.offload(99);
        due("not more", more.events(), 300);
    }

    private static void event() {
        promise(41);
        says("Returns a part of an event (section 5).");
        int[][] want = {{4, 9, 3, 1}, {6, 9, 4, 1}, {9, 9, 0, 0}, {12, 9, 2, 0}, {13, 10, 6, 2}};
        for (int number = 0; number < 5; number++) {
            for (int what = 0; what < 4; what++) {
                due("event " + number + " " + what, RICH.get().event(number, what), want[number][what]);
            }
        }
        says("- `number`: from 0");
        calls.arguments(RICH, "event", Calls.index(5), Calls.number(0, 3));
        says("- `what`: 0: the time; 1: the new state of the bag; 2: the bag; 3: the flight that it had then");
        BaggageLoop then = RICH.get();
        then.reroute(3, 2);
        then.reroute(3, 0);
        due("the flight that it had then", then.event(0, 3), 1);
        int[] states = {9, 10, 11, 12, 13};
        int[][] parts = {{13, 9, 0, 0}, {41, 10, 0, 0}, {7, 11, 0, 0}, {11, 12, 0, 0}, {41, 13, 0, 0}};
        for (int i = 0; i < states.length; i++) {
            BaggageLoop x = Airports.inState(states[i]);
            for (int what = 0; what < 4; what++) {
                due("the event of state " + states[i], x.event(x.events() - 1, what), parts[i][what]);
            }
        }
        says("Returns the part.");
        BaggageLoop last = Airports.late(9998);
        last.advance(1);
        last.offload(0);
        due("the latest time", last.event(last.events() - 1, 0), 9999);
        BaggageLoop wide = Check.loaded("loop 10 0 5" + WIDE + ";flight 1 0 999;flight 2 0 999;flight 3 0 999;flight 4 0 999"
                + ";flight 6 0 999;flight 7 0 999;flight 8 0 999;flight 9 0 999;bags 1 100 7");
        wide.advance(300);
        due("the last bag", wide.event(99, 2), 99);
        due("the last flight", wide.event(99, 3), 7);
        due("its state", wide.event(99, 1), 10);
        due("its time", wide.event(99, 0), wide.finishedAt(99));
        calls.needsAirport("event");
        says("Throws `IndexOutOfBoundsException` if there is no such event");
        spec.refused("no events", IOOBE, NO_BAGS, x -> x.event(0, 0));
        calls.arguments(FULL_LOG, "event", Calls.index(300), Calls.number(0, 3));
        says("Throws `IllegalArgumentException` if what is not 0 to 3");
        spec.refused("4", IAE, FULL_LOG, x -> x.event(299, 4));
        spec.refused("-1", IAE, FULL_LOG, x -> x.event(299, -1));
    }

    /** 300 events, and one loaded bag more. */
    private static final Supplier<BaggageLoop> FULL_LOG = () -> {
        BaggageLoop x = at("loop 10 0 9" + WIDE + ";flight 8 400 1999;flight 7 500 1999;lane 2 20;lane 3 20;lane 4 20"
                + ";lane 5 20;bags 0 80 0;bags 410 20 1", 400);
        x.reroute(x.bagAt(2), 1);
        x.advance(301);
        for (int bag = 0; bag < 99; bag++) {
            x.offload(bag);
        }
        return x;
    };

    private static String reportOf(BaggageLoop x) {
        return Check.text(x::report, x::reportByte);
    }

    private static void report() {
        promise(42);
        says("Writes a report, which replaces the text that was written before.");
        BaggageLoop x = at("loop 10 0 5" + WIDE + ";flight 3 0 999;bags 1 12 0", 16);
        due("before", reportOf(x), "12/12");
        x.undo();
        due("shorter", reportOf(x), "0/12");
        spec.fails("nothing of the longer one is left", IOOBE, () -> x.reportByte(4));
        says("For each flight, by numbers, it contains the number of its loaded bags, a slash, the number of its bags, and, if "
                + "it has short bags, a minus sign and their number.");
        String[] inState = {"0/1;0/0", "0/1;0/0", "0/1;0/0", "0/1;0/0", "0/1;0/0", "0/1;0/0", "0/1;0/0", "0/1;0/1",
            "0/1;0/0", "0/1;0/0", "1/1;0/0", "0/1-1;0/0", "0/1;0/0", "0/1;0/0"};
        inStates("report", y -> reportOf(y), (Object[]) inState);
        due("loaded and short ones", reportOf(at("loop 10 0 5" + WIDE + ";flight 3 0 7;bags 1 5 0", 99)), "2/5-3");
        says("These parts are separated by semicolons.");
        due("one flight", reportOf(NO_BAGS.get()), "0/0");
        due("eight flights", reportOf(EIGHT.get()), "0/0;0/0;0/0;0/0;0/0;0/0;0/0;0/1");
        says("Numbers have no leading zeros.");
        String many = "loop 10 0 5" + WIDE + ";flight 3 0 CLOSE;bags 1 BAGS 0";
        for (int bags : new int[] {1, 9, 10, 11, 99, 100}) {
            String text = many.replace("BAGS", String.valueOf(bags));
            due("loaded", reportOf(at(text.replace("CLOSE", "999"), 300)), bags + "/" + bags);
            due("short", reportOf(at(text.replace("CLOSE", "1"), 300)), "0/" + bags + "-" + bags);
        }
        says("Returns the number of bytes of the text.");
        due("3", NO_BAGS.get().report(), 3);
        due("31", EIGHT.get().report(), 31);
        due("9", at(many.replace("BAGS", "100").replace("CLOSE", "1"), 300).report(), 9);
        calls.needsAirport("report");
    }

    private static void reportByte() {
        promise(43);
        says("Returns a byte of the text that report wrote last.");
        BaggageLoop r = NO_BAGS.get();
        r.report();
        due("bytes", r.reportByte(0) * 10000 + r.reportByte(1) * 100 + r.reportByte(2), 484748);
        r.addBags(1, 1, 0);
        due("it is not written again", r.reportByte(2), (int) '0');
        r.report();
        due("it is now", r.reportByte(2), (int) '1');
        says("- `i`: index of the byte, from 0");
        spec.fails("-1", IOOBE, () -> r.reportByte(-1));
        due("0", r.reportByte(0), (int) '0');
        says("Returns the byte.");
        Supplier<BaggageLoop> written = () -> written(BaggageLoop::report);
        due("the last byte", written.get().reportByte(30), (int) '1');
        says("Throws `IndexOutOfBoundsException` if there is no such byte (always, before the first report)");
        for (int wrong : new int[] {-1, 31, MIN, MAX}) {
            spec.refused("reportByte " + wrong, IOOBE, WRITTEN, y -> y.reportByte(wrong));
        }
        for (int i : new int[] {0, 1, -1, MAX}) {
            spec.refused("before an airport", IOOBE, Airports.EMPTY, y -> y.reportByte(i));
            spec.refused("before the first report", IOOBE, Airports.FRESH, y -> y.reportByte(i));
            spec.refused("after a map alone", IOOBE, () -> written(BaggageLoop::map), y -> y.reportByte(i));
        }
    }

    private static BaggageLoop written(Function<BaggageLoop, Integer> write) {
        BaggageLoop x = EIGHT.get();
        write.apply(x);
        return x;
    }

    private static final Supplier<BaggageLoop> WRITTEN = () -> {
        BaggageLoop x = EIGHT.get();
        x.report();
        x.map();
        x.timetable();
        return x;
    };

    private static String mapOf(BaggageLoop x) {
        return Check.text(x::map, x::mapByte);
    }

    /** Flight k has one bag, which is at ENTRY at k + 2. */
    private static final String LETTERS = "loop 20 0 10" + WIDE + ";flight 1 900 999;flight 2 900 999;flight 3 900 999;flight 4 900 999"
            + ";flight 6 900 999;flight 7 900 999;flight 8 900 999;flight 9 900 999;bags 1 1 0;bags 2 1 1;bags 3 1 2"
            + ";bags 4 1 3;bags 5 1 4;bags 6 1 5;bags 7 1 6;bags 8 1 7";

    private static void map() {
        promise(44);
        says("Writes a map of the loop as a text of LENGTH bytes, which replaces the map that was written before: for each "
                + "position a dot if it is free, otherwise the letter of the flight of its bag, A for flight 0 and so on.");
        due("free", mapOf(NO_BAGS.get()), "....");
        due("full", mapOf(at("loop 4 0 1" + WIDE + ";flight 2 900 999;bags 1 6 0", 9)), "AAAA");
        BaggageLoop x = at(LETTERS, 9);
        due("letters", mapOf(x), "HGFEDCBA............");
        x.reroute(0, 7);
        due("the flight now", mapOf(x), "HGFEDCBH............");
        Check.load(x, Airports.NEXT_TEXT);
        due("a shorter one", mapOf(x), "....");
        spec.fails("nothing of the longer one is left", IOOBE, () -> x.mapByte(4));
        says("Returns LENGTH.");
        for (int length : new int[] {4, 40}) {
            due("LENGTH " + length, Check.loaded("loop " + length + " 0 1" + QUICK + ";flight 2 0 9").map(), length);
        }
        calls.needsAirport("map");
    }

    private static void mapByte() {
        promise(45);
        says("Returns a byte of the map that was written last.");
        BaggageLoop y = at(LETTERS, 8);
        y.map();
        y.advance(1);
        due("it is not written again", y.mapByte(7), (int) '.');
        y.map();
        due("it is now", y.mapByte(7), (int) 'A');
        says("- `i`: index of the byte, from 0");
        due("0", y.mapByte(0), (int) 'H');
        spec.fails("-1", IOOBE, () -> y.mapByte(-1));
        says("Returns the byte.");
        due("the last byte", y.mapByte(19), (int) '.');
        says("Throws `IndexOutOfBoundsException` if there is no such byte (always, before the first map)");
        for (int wrong : new int[] {-1, 10, MIN, MAX}) {
            spec.refused("mapByte " + wrong, IOOBE, WRITTEN, z -> z.mapByte(wrong));
        }
        for (int i : new int[] {0, 1, -1, MAX}) {
            spec.refused("before an airport", IOOBE, Airports.EMPTY, z -> z.mapByte(i));
            spec.refused("before the first map", IOOBE, Airports.FRESH, z -> z.mapByte(i));
            spec.refused("after a report alone", IOOBE, () -> written(BaggageLoop::report), z -> z.mapByte(i));
        }
    }

    private static String timetableOf(BaggageLoop x) {
        return Check.text(x::timetable, x::timetableByte);
    }

    private static void timetable() {
        promise(46);
        says("Writes a timetable, which replaces the timetable that was written before.");
        BaggageLoop x = EIGHT.get();
        due("before", timetableOf(x), "G0-3;E0-5;D0-6;F0-6;C0-7;B0-8;A0-9;H999-1999");
        Check.load(x, Airports.NEXT_TEXT);
        due("shorter", timetableOf(x), "A0-9");
        spec.fails("nothing of the longer one is left", IOOBE, () -> x.timetableByte(4));
        says("For each flight, those with the smaller CLOSE first, of equal ones the smaller number, it contains its letter "
                + "(A for flight 0 and so on), OPEN, a minus sign and CLOSE, and then for each lane, by numbers, in which there "
                + "are bags of the flight: a comma, the number of the lane, the letter x and the number of these bags.");
        due("by CLOSE and numbers", timetableOf(EIGHT.get()), "G0-3;E0-5;D0-6;F0-6;C0-7;B0-8;A0-9;H999-1999");
        due("lanes", timetableOf(FOUR_LANES.get()), "A900-999,0x1,1x20,2x1,3x1");
        BaggageLoop y = RICH.get();
        due("two flights", timetableOf(y), "B33-34,0x2;C0-40;A22-60,1x2");
        y.reroute(4, 0);
        due("both in a lane", timetableOf(y), "B33-34,0x1;C0-40;A22-60,0x1,1x2");
        y.delay(1, 5);
        due("CLOSE 39", timetableOf(y), "B38-39,0x1;C0-40;A22-60,0x1,1x2");
        y.delay(1, 1);
        due("CLOSE 40", timetableOf(y), "B39-40,0x1;C0-40;A22-60,0x1,1x2");
        y.delay(1, 1);
        due("CLOSE 41", timetableOf(y), "C0-40;B40-41,0x1;A22-60,0x1,1x2");
        y.reroute(0, 2);
        y.reroute(2, 2);
        due("none of the flight", timetableOf(y), "C0-40,1x2;B40-41,0x1;A22-60,0x1");
        says("These parts are separated by semicolons.");
        due("one", timetableOf(NO_BAGS.get()), "A0-9");
        due("eight", timetableOf(EIGHT.get()).chars().filter(c -> c == ';').count(), 7L);
        says("Numbers have no leading zeros.");
        for (int[] f : new int[][] {{0, 1}, {9, 10}, {99, 100}, {999, 1000}, {10, 1999}, {100, 999}}) {
            due("numbers", timetableOf(Check.loaded("loop 4 0 1" + QUICK + ";flight 2 " + f[0] + " " + f[1])),
                    "A" + f[0] + "-" + f[1]);
        }
        BaggageLoop far = EIGHT.get();
        for (int i = 1; i <= 300; i++) {
            far.delay(7, 999);
        }
        due("long numbers", timetableOf(far).endsWith(";H300699-301699"), true);
        says("Returns the number of bytes of the text.");
        due("4", NO_BAGS.get().timetable(), 4);
        due("44", EIGHT.get().timetable(), 44);
        longestTimetable();
        calls.needsAirport("timetable");
    }

    private static void timetableByte() {
        promise(47);
        says("Returns a byte of the timetable that was written last.");
        BaggageLoop t = NO_BAGS.get();
        t.timetable();
        t.delay(0, 1);
        due("it is not written again", t.timetableByte(3), (int) '9');
        t.timetable();
        due("it is now", t.timetableByte(3), (int) '1');
        says("- `i`: index of the byte, from 0");
        due("0", t.timetableByte(0), (int) 'A');
        spec.fails("-1", IOOBE, () -> t.timetableByte(-1));
        says("Returns the byte.");
        due("the last byte", t.timetableByte(4), (int) '0');
        says("Throws `IndexOutOfBoundsException` if there is no such byte (always, before the first timetable)");
        for (int wrong : new int[] {-1, 44, MIN, MAX}) {
            spec.refused("timetableByte " + wrong, IOOBE, WRITTEN, z -> z.timetableByte(wrong));
        }
        for (int i : new int[] {0, 1, -1, MAX}) {
            spec.refused("before an airport", IOOBE, Airports.EMPTY, z -> z.timetableByte(i));
            spec.refused("before the first timetable", IOOBE, Airports.FRESH, z -> z.timetableByte(i));
            spec.refused("after a report alone", IOOBE, () -> written(BaggageLoop::report), z -> z.timetableByte(i));
        }
    }

    /** Every flight has bags in every lane, and long numbers. */
    private static void longestTimetable() {
        StringBuilder text = new StringBuilder("loop 40 0 39" + WIDE);
        for (int flight = 0; flight < 8; flight++) {
            text.append(";flight ").append(10 + flight).append(" 900 999");
        }
        text.append(";lane 1 20;lane 2 20;lane 3 20;lane 4 20;bags 1 100 0");
        BaggageLoop x = at(text.toString(), 200);
        StringBuilder want = new StringBuilder();
        for (int bag = 0; bag < 80; bag++) {
            x.reroute(bag, bag % 8);
        }
        for (int flight = 0; flight < 8; flight++) {
            for (int i = 0; i < 12; i++) {
                x.delay(flight, 999);
            }
            want.append(flight > 0 ? ";" : "").append((char) ('A' + flight)).append("12888-12987");
            for (int lane = 0; lane < 4; lane++) {
                int stored = 0;
                for (int place = 0; place < 20; place++) {
                    stored += x.flightOf(x.laneAt(lane, place)) == flight ? 1 : 0;
                }
                want.append(",").append(lane).append("x").append(stored);
            }
        }
        due("the longest", timetableOf(x), want.toString());
    }
}
