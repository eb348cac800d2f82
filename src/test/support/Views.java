import java.util.HashMap;
import java.util.List;
import java.util.Map;
import java.util.function.Supplier;

/** All that the calls of an object tell, as one text. */
final class Views {
    /** Looks at an object, perhaps after some more calls. */
    interface Probe {
        String look(BaggageLoop x);
    }

    private interface Answer {
        Object get();
    }

    /** Together they see the state, the texts, the input buffer, what can be undone and what is saved. */
    static final List<Probe> PROBES = List.of(Views::all, Views::undone, x -> restored(x, 0), x -> restored(x, 1),
            Views::later, Views::loadedNext, Views::hidden);

    private static final Map<Supplier<BaggageLoop>, Map<Probe, String>> seen = new HashMap<>();

    private final StringBuilder text = new StringBuilder();

    /** What a probe sees of a new object of a maker. */
    static String expected(Supplier<BaggageLoop> maker, Probe probe) {
        return seen.computeIfAbsent(maker, m -> new HashMap<>()).computeIfAbsent(probe, p -> p.look(maker.get()));
    }

    static String all(BaggageLoop x) {
        Views v = new Views();
        v.oldTexts(x);
        v.numbers(x);
        v.bags(x);
        v.places(x);
        v.flights(x);
        v.events(x);
        v.questions(x);
        v.newTexts(x);
        return v.text.toString();
    }

    static String undone(BaggageLoop x) {
        Views v = new Views();
        while (x.undoable() > 0) {
            v.add("undo", x::undo);
            v.numbers(x);
        }
        v.bags(x);
        v.places(x);
        v.flights(x);
        return v.text.toString();
    }

    static String restored(BaggageLoop x, int slot) {
        Views v = new Views();
        v.add("restore " + slot, () -> x.restore(slot));
        return v.text + all(x);
    }

    static String later(BaggageLoop x) {
        Views v = new Views();
        v.add("advance", () -> x.advance(30));
        return v.text + all(x);
    }

    static String loadedNext(BaggageLoop x) {
        Views v = new Views();
        v.add("load", () -> x.load(x.buffered()));
        return v.text + all(x);
    }

    /** HOT and what is blocked are told only by calls that change them. */
    static String hidden(BaggageLoop x) {
        Views v = new Views();
        v.add("setHot", () -> x.setHot(0));
        v.add("block 0", () -> x.block(0, false));
        v.add("block 1", () -> x.block(1, false));
        return v.text.toString();
    }

    private void add(String what, Answer answer) {
        text.append(what).append('=');
        try {
            text.append(answer.get());
        } catch (RuntimeException e) {
            text.append(e.getClass().getSimpleName());
        }
        text.append(' ');
    }

    private void oldTexts(BaggageLoop x) {
        for (int i = 0; i < 16; i++) {
            int k = i;
            add("reportByte", () -> x.reportByte(k));
            add("mapByte", () -> x.mapByte(k));
            add("timetableByte", () -> x.timetableByte(k));
        }
    }

    private void numbers(BaggageLoop x) {
        add("parseError", x::parseError);
        add("errorPosition", x::errorPosition);
        add("buffered", x::buffered);
        add("time", x::time);
        add("bags", x::bags);
        add("loopLoad", x::loopLoad);
        add("stoppedUntil", x::stoppedUntil);
        add("lanes", x::lanes);
        add("keeps", x::keeps);
        add("flights", x::flights);
        add("events", x::events);
        add("undoable", x::undoable);
    }

    private void bags(BaggageLoop x) {
        for (int i = 0; i < x.bags(); i += i < 6 ? 1 : 31) {
            int bag = i;
            add("stateOf " + bag, () -> x.stateOf(bag));
            add("flightOf", () -> x.flightOf(bag));
            add("arrivalOf", () -> x.arrivalOf(bag));
            add("positionOf", () -> x.positionOf(bag));
            add("lapsOf", () -> x.lapsOf(bag));
            add("levelOf", () -> x.levelOf(bag));
            add("laneOf", () -> x.laneOf(bag));
            add("ticksTo", () -> x.ticksTo(bag));
            add("finishedAt", () -> x.finishedAt(bag));
            add("isHot", () -> x.isHot(bag));
            add("isKept", () -> x.isKept(bag));
        }
    }

    private void places(BaggageLoop x) {
        for (int level = 1; level <= 3; level++) {
            for (int machine = 0; machine < 3; machine++) {
                int k = level;
                int m = machine;
                add("machineAt " + k + " " + m, () -> x.machineAt(k, m));
                add("brokenUntil", () -> x.brokenUntil(k, m));
            }
        }
        for (int queue = 1; queue <= 4; queue++) {
            int q = queue;
            add("waiting " + q, () -> x.waiting(q));
            add("queueAt", () -> x.queueAt(q, 0));
        }
        for (int lane = 0; lane < x.lanes(); lane++) {
            int l = lane;
            add("laneSize " + l, () -> x.laneSize(l));
            for (int place = 0; place < x.laneSize(l); place++) {
                int p = place;
                add("laneAt", () -> x.laneAt(l, p));
            }
        }
    }

    private void flights(BaggageLoop x) {
        for (int i = 0; i < x.flights(); i++) {
            int flight = i;
            add("flightState " + flight, () -> x.flightState(flight));
            add("openOf", () -> x.openOf(flight));
            add("closeOf", () -> x.closeOf(flight));
            add("missing", () -> x.missing(flight));
            add("loadedShare", () -> x.loadedShare(flight));
            add("percentile", () -> x.percentile(flight, 50));
            add("worstFlight", () -> x.worstFlight(flight));
        }
    }

    private void events(BaggageLoop x) {
        for (int i = 0; i < x.events(); i += i < 12 ? 1 : 29) {
            int number = i;
            for (int what = 0; what < 4; what++) {
                int w = what;
                add("event " + number, () -> x.event(number, w));
            }
        }
    }

    private void questions(BaggageLoop x) {
        add("loadedIn", () -> x.loadedIn(40));
        add("shortIn", () -> x.shortIn(60));
        add("timeToClear", () -> x.timeToClear(90));
        add("bestDelay", () -> x.bestDelay(0, 60));
        add("withoutLane 0", () -> x.withoutLane(0, 40));
        add("withoutLane 1", () -> x.withoutLane(1, 40));
    }

    private void newTexts(BaggageLoop x) {
        add("report", () -> Check.text(x::report, x::reportByte));
        add("map", () -> Check.text(x::map, x::mapByte));
        add("timetable", () -> Check.text(x::timetable, x::timetableByte));
    }
}
