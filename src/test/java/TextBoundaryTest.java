import java.util.ArrayList;
import java.util.List;
import java.util.function.ToIntFunction;

/** Section 6 of the document, sentence by sentence: the text format, its bounds and its errors. */
public final class TextBoundaryTest {
    private static final String LEVELS = " level 1 2 0 level 1 1 0 level 1 1 0 hot 5 seed 1";
    private static final String HEAD = "loop 10 0 5" + LEVELS;
    private static final String FLIGHT = HEAD + ";flight 3 10 40";
    private static final String KEEP = FLIGHT + ";keep ";
    /** Every kind of line; the text may end before each bar. */
    private static final String FULL = "loop 10 0 5 level 1 2 0 level 1 1 0 level 1 1 0 hot 5 seed 1 | ; lane 2 3 | "
            + "; flight 3 10 40 | ; bags 0 2 0 | ; shift 1 0 2 3 | ; keep not ( wait < 3 and laps > 1 or level = 2 ) | "
            + "and load < 3 | or ( ( time > 4 ) ) | ; keep not not time = 9 | ; flight 4 0 1 |";

    private static final Spec spec = new Spec();

    public static void main(String[] args) {
        buffer();
        tokens();
        grammar();
        headBounds();
        lineBounds();
        counts();
        depth();
        order();
        positions();
        wrongTokens();
        numbersOutOfBounds();
        takenPositions();
        tooManyLines();
        noFlight();
        tooDeep();
        spec.end("6");
    }

    private static void says(String words) {
        spec.says(words);
    }

    private static String answer(BaggageLoop x, String text, int n) {
        Check.fill(x, text);
        try {
            x.load(n);
        } catch (IllegalArgumentException e) {
            return "error " + x.parseError() + " at " + x.errorPosition();
        }
        return "loaded " + x.parseError() + " " + x.errorPosition();
    }

    private static BaggageLoop good(String text) {
        BaggageLoop x = new BaggageLoop();
        spec.due(text, answer(x, text, text.length()), "loaded 0 -1");
        return x;
    }

    /** The error is at the mark !, or at the end if there is none. */
    private static void bad(int code, String marked) {
        int mark = marked.indexOf('!');
        String text = marked.replace("!", "");
        String want = "error " + code + " at " + (mark < 0 ? text.length() : mark);
        spec.due(text, answer(new BaggageLoop(), text, text.length()), want);
        // The bytes behind the first n are not looked at.
        spec.due("a part: " + text, answer(new BaggageLoop(), text + "#lane 3;", text.length()), want);
    }

    private static void buffer() {
        spec.of("6");
        says("The input buffer holds at most 1200 bytes.");
        BaggageLoop x = new BaggageLoop();
        for (int bytes = 20; bytes <= 1200; bytes += 20) {
            spec.due("append", x.append(0x20202020, 0x20202020, 0x20202020, 0x20202020, 0x20202020), bytes);
        }
        spec.due("append more", x.append(0, 0, 0, 0, 0), -1);
        spec.due("buffered", x.buffered(), 1200);
        String longest = " ".repeat(1200 - FLIGHT.length()) + FLIGHT;
        spec.due("the last byte counts", good(longest).closeOf(0), 40);
        spec.due("an error at the last byte", answer(new BaggageLoop(), longest.substring(1) + "#", 1200), "error 1 at 1199");
        spec.due("an error at the end", answer(new BaggageLoop(), longest.substring(1) + ";", 1200), "error 1 at 1200");
    }

    private static void tokens() {
        says("Tokens are words (1 to 8 lower-case letters), numbers (1 to 5 digits) and the single characters "
                + "; ( ) < > and =.");
        good(KEEP + "(load<1)or(load>2)and(load=3)");
        for (String number : new String[] {"7", "07", "007", "0007", "00007"}) {
            spec.due("number " + number, good(FLIGHT.replace("hot 5", "hot " + number)).setHot(0), 7);
        }
        bad(1, FLIGHT.replace("hot 5", "hot !000007"));
        for (int letters = 1; letters <= 10; letters++) {
            bad(1, FLIGHT + ";!" + "flightss".repeat(2).substring(0, letters == 6 ? 5 : letters) + " 4 0 1");
        }
        for (int b = 0; b < 256; b++) {
            char c = (char) b;
            boolean letter = c >= 'a' && c <= 'z';
            boolean digit = c >= '0' && c <= '9';
            if (c == ' ') {
                good(FLIGHT + c);
            } else if (c == ';') {
                bad(1, FLIGHT + c);
            } else if (digit) {
                // It belongs to the number before it: 400 to 409.
                spec.due("digit " + c, good(FLIGHT + c).closeOf(0), 400 + c - '0');
            } else if (c != '!') {
                bad(1, FLIGHT + "!" + c);
            }
            if (!letter && !digit && c != '!' && "; ".indexOf(c) < 0) {
                bad(1, HEAD + ";!" + c + "flight 3 10 40");
                bad(1, HEAD + ";flight !" + c + "3 10 40");
                bad(1, HEAD + ";flight 3!" + c + " 10 40");
            }
        }
        says("Blanks (byte 32) only separate tokens.");
        good("   loop   10  0   5" + LEVELS.replace(" ", "    ") + "   ;   flight   3  10   40    ");
        good(KEEP + "  (   not   load   <   1   )   ");
        bad(2, HEAD + ";flight 3 1 !0 40");
        bad(1, FLIGHT.replace("flight", "!fli ght"));
        bad(1, FLIGHT.replace("10 40", "10 40 !0"));
        for (char c : new char[] {'\t', '\n', '\r', 0, 31, 33, 160}) {
            if (c != '!') {
                bad(1, FLIGHT.replace("3 10", "3!" + c + "10"));
            }
        }
        says("A run of letters ends at the first byte that is not a lower-case letter; a run of digits ends at the first "
                + "byte that is not a digit.");
        good("loop10 0 5level1 2 0level1 1 0level1 1 0hot5seed1;flight3 10 40;keep(load<1)and(time=3)or not wait>2");
        good(FLIGHT + ";keep load<1and load>2or(not(load=3))");
        bad(1, FLIGHT.replace("hot 5", "hot 5!Seed"));
        bad(1, FLIGHT.replace("hot", "hot!T"));
        bad(1, FLIGHT.replace("flight", "flight!_"));
        bad(1, FLIGHT.replace("40", "40!.0"));
        bad(1, FLIGHT.replace("flight", "!flightlane"));
        bad(1, FLIGHT.replace("seed 1", "seed !123456"));
        bad(1, KEEP + "!notload<1");
        bad(1, KEEP + "load<1 !andload<1");
    }

    private static void grammar() {
        says("The grammar, with literals in quotes: text = \"loop\" LENGTH ENTRY PROBLEM level level level \"hot\" HOT "
                + "\"seed\" SEED {\";\" line}");
        List<String> tokens = List.of(FULL.split(" "));
        ends(tokens);
        replaced(tokens);
        bad(1, FULL.replace("|", "").replaceFirst("level 1 1 0 level 1 1 0", "level 1 1 0").replace("hot", "!hot"));
        bad(1, FULL.replace("|", "").replaceFirst("hot", "!level 1 1 0 hot"));
        bad(1, FLIGHT + ";!;lane 2 1");
        bad(1, FLIGHT + " !lane 2 1");
        bad(5, HEAD);
        says("level = \"level\" MACHINES TICKS ALARM");
        bad(1, FLIGHT.replaceFirst("level 1 2 0 level", "level 1 2 !level"));
        bad(1, FLIGHT.replaceFirst("level 1 2 0", "level 1 2 0 !0"));
        says("line = \"flight\" POSITION OPEN CLOSE");
        bad(1, HEAD + ";flight 3 10");
        bad(1, HEAD + ";flight 3 10 40 !40");
        bad(1, HEAD + ";flight 3 10 !;lane 2 1");
        says("line = \"lane\" POSITION CAPACITY");
        good(FLIGHT + ";lane 2 3");
        bad(1, FLIGHT + ";lane 2");
        bad(1, FLIGHT + ";lane 2 3 !3");
        says("line = \"bags\" TIME COUNT FLIGHT");
        good(FLIGHT + ";bags 0 2 0");
        bad(1, FLIGHT + ";bags 0 2");
        bad(1, FLIGHT + ";bags 0 2 0 !0");
        says("line = \"shift\" LEVEL COUNT FROM UNTIL");
        good(FLIGHT + ";shift 1 0 2 3");
        bad(1, FLIGHT + ";shift 1 0 2");
        bad(1, FLIGHT + ";shift 1 0 2 3 !3");
        says("line = \"keep\" test");
        good(KEEP + "load<1");
        bad(1, KEEP.trim());
        bad(1, KEEP.trim() + "!;");
        says("test = unit {(\"and\" | \"or\") unit}");
        good(KEEP + "load<1 and load<1 or load<1 or load<1 and load<1");
        bad(1, KEEP + "load<1 and");
        bad(1, KEEP + "load<1 or !;");
        bad(1, KEEP + "load<1 and !and load<1");
        bad(1, KEEP + "!and load<1");
        bad(1, KEEP + "load<1 !load<1");
        bad(1, KEEP + "load<1 !not load<1");
        bad(1, KEEP + "load<1 !xor load<1");
        says("unit = \"not\" unit | \"(\" test \")\" | value (\"<\" | \">\" | \"=\") NUMBER");
        good(KEEP + "not load<1");
        good(KEEP + "(load>1)");
        good(KEEP + "load=1");
        good(KEEP + "not not (not (load=1 and not load<2))");
        bad(1, KEEP + "not");
        bad(1, KEEP + "not !and");
        bad(1, KEEP + "(!)");
        bad(1, KEEP + "(load<1");
        bad(1, KEEP + "(load<1 !;");
        bad(1, KEEP + "((load<1)");
        bad(1, KEEP + "load<1!)");
        bad(1, KEEP + "(load<1)!)");
        bad(1, KEEP + "(load<1)!(load<1)");
        bad(1, KEEP + "load");
        bad(1, KEEP + "load !1");
        bad(1, KEEP + "load<");
        bad(1, KEEP + "load<!=1");
        bad(1, KEEP + "load<!load");
        bad(1, KEEP + "!1<load");
        says("value = \"wait\" | \"laps\" | \"level\" | \"load\" | \"time\"");
        for (String value : new String[] {"wait", "laps", "level", "load", "time"}) {
            good(KEEP + value + "<1");
            bad(1, KEEP + "!" + value + "s<1");
            bad(1, KEEP + "!" + value.substring(1) + "<1");
        }
        for (String word : new String[] {"loop", "hot", "seed", "flight", "lane", "bags", "shift", "keep", "and", "or", "zzz"}) {
            bad(1, KEEP + "!" + word + "<1");
        }
    }

    /** A text that ends behind each token: complete before a bar alone. */
    private static void ends(List<String> tokens) {
        List<String> before = new ArrayList<>();
        boolean complete = false;
        for (String token : tokens) {
            String text = String.join(" ", before);
            if (token.equals("|")) {
                complete = true;
                mayEnd(text, before.contains("flight"));
                mayEnd(text + "  ", before.contains("flight"));
            } else {
                if (!complete) {
                    bad(1, text);
                    bad(1, text + "   ");
                }
                complete = false;
                before.add(token);
            }
        }
    }

    private static void mayEnd(String text, boolean withFlight) {
        if (withFlight) {
            good(text);
        } else {
            bad(5, text);
        }
    }

    /** A text with another token in the place of each one. */
    private static void replaced(List<String> tokens) {
        for (int i = 0; i < tokens.size(); i++) {
            String token = tokens.get(i);
            if (!token.equals("|")) {
                for (String wrong : new String[] {"zzz", "#", "A", "123456", "abcdefghi", "\0", "\u00e9", "loops"}) {
                    bad(1, with(tokens, i, wrong));
                }
                char first = token.charAt(0);
                if (first >= 'a') {
                    bad(1, with(tokens, i, token + "s"));
                    bad(1, with(tokens, i, token.substring(1)));
                    bad(1, with(tokens, i, token.toUpperCase()));
                    bad(1, with(tokens, i, "7"));
                } else if (first >= '0' && first <= '9') {
                    bad(1, with(tokens, i, "level"));
                    bad(1, with(tokens, i, "<"));
                    bad(1, with(tokens, i, ";"));
                } else {
                    bad(1, with(tokens, i, "7"));
                    bad(1, with(tokens, i, "flight"));
                }
            }
        }
    }

    private static String with(List<String> tokens, int number, String wrong) {
        List<String> all = new ArrayList<>(tokens);
        all.set(number, "!" + wrong);
        all.removeIf(token -> token.equals("|"));
        return String.join(" ", all);
    }

    /** A number # of the text: both bounds are good and the numbers next to them are not. */
    private static void bounds(String text, int low, int high, ToIntFunction<BaggageLoop> read) {
        for (int value : new int[] {low, high}) {
            BaggageLoop x = good(text.replace("#", String.valueOf(value)));
            if (read != null && x.flights() > 0) {
                spec.due("what was told with " + value + ": " + text, read.applyAsInt(x), value);
            }
            good(text.replace("#", String.format("%05d", value)));
            bad(1, text.replace("#", "!" + String.format("%06d", value)));
        }
        if (low > 0) {
            bad(2, text.replace("#", "!" + (low - 1)));
            bad(2, text.replace("#", "!0"));
        }
        if (high < 99999) {
            bad(2, text.replace("#", "!" + (high + 1)));
            bad(2, text.replace("#", "!99999"));
        } else {
            bad(1, text.replace("#", "!100000"));
        }
        bad(1, text.replace("#", "!-" + low));
        bad(1, text.replace("#", "!999999"));
    }

    private static int entry(BaggageLoop x) {
        while (x.stateOf(0) < 8) {
            x.advance(1);
        }
        return x.positionOf(0);
    }

    private static void headBounds() {
        says("LENGTH is 4 to 40;");
        bounds("loop # 0 1" + LEVELS + ";flight 2 0 1", 4, 40, x -> x.map());
        says("ENTRY, PROBLEM and POSITION are 0 to LENGTH - 1;");
        for (int length : new int[] {4, 10, 40}) {
            String loop = "loop " + length;
            int last = length - 1;
            bounds(loop + " # 1" + LEVELS + ";flight 2 0 1;bags 0 1 0", 0, last, x -> entry(x));
            bounds(loop + " 1 #" + LEVELS + ";flight 2 0 1;bags 0 1 0", 0, last, x -> leaves(x, 11));
            bounds(loop + " 1 2" + LEVELS + ";flight # 0 999;bags 0 1 0", 0, last, x -> leaves(x, 10));
            // With LENGTH 4 the lane has no other position than 0.
            String lane = loop + " 1 2" + LEVELS + ";flight 3 900 999;lane # 1;bags 0 1 0";
            if (length > 4) {
                bounds(lane, 0, last, x -> leaves(x, 9));
            } else {
                spec.due("the lane", leaves(good(lane.replace("#", "0")), 9), 0);
                bad(2, lane.replace("#", "!4"));
            }
        }
        says("MACHINES is 1 to 4, TICKS 1 to 99, ALARM 0 to 1000;");
        for (int level = 1; level <= 3; level++) {
            int k = level;
            String text = "loop 10 0 5" + (k > 1 ? " level 1 1 1000" : "") + (k > 2 ? " level 1 1 1000" : "") + " level M T A"
                    + (k < 3 ? " level 1 1 0" : "") + (k < 2 ? " level 1 1 0" : "") + " hot 5 seed 1;flight 3 900 999;bags 1 1 0";
            bounds(text.replace("M", "#").replace("T", "2").replace("A", "0"), 1, 4, x -> machines(x, k));
            bounds(text.replace("M", "1").replace("T", "#").replace("A", "0"), 1, 99, x -> entryTime(x) - k);
            bounds(text.replace("M", "1").replace("T", "2").replace("A", "#"), 0, 1000, null);
        }
        says("HOT is 0 to 999, SEED 0 to 99999;");
        bounds("loop 10 0 5 level 1 2 0 level 1 1 0 level 1 1 0 hot # seed 1;flight 3 0 1", 0, 999, x -> x.setHot(0));
        bounds("loop 10 0 5 level 1 2 0 level 1 1 0 level 1 1 0 hot 5 seed #;flight 3 0 1", 0, 99999, null);
    }

    /** The position at which bag 0 leaves the loop for a state. */
    private static int leaves(BaggageLoop x, int state) {
        int position = entry(x);
        int length = x.map();
        for (int ticks = 0; ticks < 99 && x.stateOf(0) == 8; ticks++) {
            x.advance(1);
            position = (position + 1) % length;
        }
        return x.stateOf(0) == state ? position : -1;
    }

    private static int machines(BaggageLoop x, int level) {
        int found = 0;
        try {
            while (found < 9) {
                x.machineAt(level, found);
                found++;
            }
        } catch (IndexOutOfBoundsException e) {
            return found;
        }
        return found;
    }

    private static int entryTime(BaggageLoop x) {
        entry(x);
        return x.time();
    }

    private static void lineBounds() {
        says("OPEN is 0 to 999, CLOSE OPEN + 1 to 1999;");
        bounds(HEAD + ";flight 3 # 1999", 0, 999, x -> x.openOf(0));
        for (int open : new int[] {0, 1, 10, 998, 999}) {
            bounds(HEAD + ";flight 3 " + open + " #", open + 1, 1999, x -> x.closeOf(0));
            bad(2, HEAD + ";flight 3 " + open + " !" + open);
        }
        says("CAPACITY is 1 to 20;");
        bounds("loop 40 0 5 level 4 1 0 level 1 1 0 level 1 1 0 hot 5 seed 1;flight 9 900 999;lane 2 #;bags 0 30 0", 1, 20,
                TextBoundaryTest::laneSizeLater);
        says("a bags line tells COUNT bags that arrive at TIME;");
        BaggageLoop x = good(FLIGHT + ";bags 7 3 0;bags 2 1 0");
        spec.due("bags", x.bags(), 4);
        for (int bag = 0; bag < 4; bag++) {
            spec.due("arrivalOf " + bag, x.arrivalOf(bag), bag < 3 ? 7 : 2);
        }
        says("TIME is 0 to 999, COUNT 1 to 100 minus the number of bags told before, FLIGHT the number of an earlier "
                + "flight line;");
        bounds(FLIGHT + ";bags # 1 0", 0, 999, y -> y.arrivalOf(0));
        bounds(FLIGHT + ";bags 0 # 0", 1, 100, y -> y.bags());
        for (int before : new int[] {1, 60, 98, 99}) {
            bounds(FLIGHT + ";bags 0 " + before + " 0;bags 0 # 0", 1, 100 - before, y -> y.bags() - before);
        }
        bounds(FLIGHT + ";bags 0 40 0;bags 0 40 0;bags 0 # 0", 1, 20, y -> y.bags() - 80);
        bad(2, FLIGHT + ";bags 0 100 0;bags 0 !1 0");
        bad(2, FLIGHT + ";bags 0 100 0;bags 0 !0 0");
        String flights = HEAD;
        int[] places = {1, 2, 3, 4, 6, 7, 8, 9};
        for (int n = 0; n < 8; n++) {
            flights += ";flight " + places[n] + " 0 " + (n + 1);
            bounds(flights + ";bags 0 1 #", 0, n, y -> y.flightOf(0));
            if (n < 7) {
                bad(2, flights + ";bags 0 1 !" + (n + 1) + ";flight " + places[n + 1] + " 0 1");
            }
        }
        bad(2, HEAD + ";bags 0 1 !0;flight 3 10 40");
        says("LEVEL is 1 to 3, and in a shift line COUNT is 0 to 3, FROM 0 to 999, UNTIL FROM to 1999;");
        bounds(FLIGHT + ";shift # 0 0 0", 1, 3, null);
        bounds(FLIGHT + ";shift 1 # 0 0", 0, 3, null);
        bounds(FLIGHT + ";shift 1 0 # 1999", 0, 999, null);
        for (int from : new int[] {0, 1, 5, 999}) {
            bounds(FLIGHT + ";bags 0 1 0;shift 1 0 0 1;shift 1 0 " + from + " #", from, 1999, null);
        }
        says("NUMBER is 0 to 9999.");
        for (String value : new String[] {"wait", "laps", "level", "load", "time"}) {
            for (String relation : new String[] {"<", ">", "="}) {
                bounds(KEEP + value + relation + "#", 0, 9999, null);
                bounds(KEEP + "not (load<9999 and " + value + relation + "#)", 0, 9999, null);
            }
        }
    }

    private static int laneSizeLater(BaggageLoop x) {
        x.advance(100);
        return x.laneSize(0);
    }

    private static final String EIGHT = HEAD + ";flight 1 0 9;flight 2 0 8;flight 3 0 7;flight 4 0 6;flight 6 0 5"
            + ";flight 7 0 6;flight 8 0 3;flight 9 0 1";

    private static void counts() {
        says("There are at most 8 flights, 4 lanes, 4 shift lines and 3 keep lines.");
        spec.due("flights", good(EIGHT).flights(), 8);
        spec.due("lanes", good(FLIGHT + ";lane 1 1;lane 2 1;lane 4 1;lane 6 1").lanes(), 4);
        good(FLIGHT + ";shift 1 0 0 1".repeat(4));
        spec.due("keeps", good(FLIGHT + ";keep load<1".repeat(3)).keeps(), 3);
        spec.due("bags lines have no bound of their own", good(FLIGHT + ";bags 1 1 0".repeat(90)).bags(), 90);
        String all = "loop 40 0 5" + LEVELS;
        for (int i = 6; i < 14; i++) {
            all += ";flight " + i + " 0 9";
        }
        all += ";lane 20 1;lane 21 1;lane 22 1;lane 23 1" + ";shift 1 0 0 1".repeat(4) + ";keep load<1".repeat(3);
        BaggageLoop x = good(all);
        spec.due("all together", x.flights() * 100 + x.lanes() * 10 + x.keeps(), 843);
        longTests();
    }

    /** The longest tests, one text after the other in one object. */
    private static void longTests() {
        BaggageLoop x = new BaggageLoop();
        for (int round = 0; round < 8; round++) {
            boolean want = round % 2 == 0;
            StringBuilder text = new StringBuilder("loop 4 0 1" + LEVELS + ";flight 2 0 9;bags 0 1 0;keep time=0");
            while (text.length() + 20 + 45 <= 1200) {
                text.append("and ").append("not ".repeat(8)).append("time=0");
            }
            text.append(want ? "and time=0" : "and time=1");
            spec.due("load", answer(x, text.toString(), text.length()), "loaded 0 -1");
            spec.due("a long test in round " + round, x.isKept(0), want);
        }
    }

    /** Units inside one another, a not or a bracket for each bit, and what is inside them all. */
    private static String nested(int units, int bits, String inside) {
        StringBuilder text = new StringBuilder(inside);
        for (int i = units - 1; i >= 0; i--) {
            text = (bits >> i & 1) == 0 ? text.insert(0, "not ") : text.insert(0, "(").append(")");
        }
        return text.toString();
    }

    private static void depth() {
        says("A unit may be inside at most 9 other units.");
        for (int bits = 0; bits < 512; bits++) {
            good(KEEP + nested(9, bits, "load<1"));
        }
        // Units beside one another are not inside one another.
        good(KEEP + "not load<1" + " or not load<1".repeat(30));
        good(KEEP + nested(9, 511, "load<1 and load<2 or load<3") + " and " + nested(9, 0, "load<1") + " or "
                + nested(9, 341, "load<1"));
        good(KEEP + nested(8, 255, "not load<1 and (load<2) or load<3 or not load<4"));
    }

    private static void order() {
        says("Parsing stops at the first token, from the left, at which an error is found; if several errors apply to that "
                + "token, the smallest code is reported.");
        bad(2, FLIGHT + ";lane !10 1#");
        bad(2, FLIGHT + ";lane 2 !21#");
        bad(2, FLIGHT + ";lane 2 !0;lane 0 1");
        bad(3, FLIGHT + ";lane !0 0");
        bad(3, FLIGHT + ";lane !0 #");
        bad(1, FLIGHT + ";lane !# 0");
        bad(3, FLIGHT + ";lane !3 abcdefghi");
        bad(4, EIGHT + ";!flight 99 0 0 #");
        bad(2, EIGHT + ";lane !10 1;flight 9 0 1");
        bad(3, EIGHT + ";lane !9 1;flight 9 0 1");
        bad(6, KEEP + "not ".repeat(10) + "!load<99999;#");
        bad(2, KEEP + "load<!10000 and " + "not ".repeat(11) + "load<1");
        bad(5, HEAD + ";lane 2 1");
        bad(2, HEAD + ";lane 2 !99");
        // Two errors at one token.
        bad(1, FLIGHT + ";lane !100000 1");
        bad(1, KEEP + "not ".repeat(10) + "!zzz<1");
        bad(1, KEEP + "not ".repeat(10) + "!notloadnot<1");
        bad(1, KEEP + "not ".repeat(10));
        bad(1, KEEP + "(".repeat(10) + "!)");
        bad(1, HEAD + ";");
        bad(1, HEAD + ";lane 2");
        bad(1, HEAD.replace(" seed 1", " seed"));
        bad(1, "");
    }

    private static void positions() {
        says("The position of an error is the index of the token's first byte; at the end of the text it is the number of "
                + "bytes.");
        bad(1, "!x");
        bad(1, "   !loops 10");
        bad(2, "loop   !41 0 5");
        bad(2, "loop!41 0 5");
        bad(1, FLIGHT + ";  !zzzzzzzz");
        bad(1, FLIGHT + ";!abcdefghijklmnopqrstuvwxyz");
        bad(1, FLIGHT + ";lane !1234567890 1");
        bad(1, FLIGHT + ";lane 2 1!\u00ff");
        bad(1, "");
        bad(1, " ");
        bad(1, FLIGHT + ";");
        bad(1, FLIGHT + ";     ");
        bad(5, HEAD + "     ");
        // A token that n cuts is as short as that.
        String text = FLIGHT + ";bags 123 45 0";
        int cut = text.indexOf("23 45");
        BaggageLoop x = new BaggageLoop();
        spec.due("cut before the end of a number", answer(x, text, cut), "error 1 at " + cut);
        spec.due("cut in a word", answer(x, text, text.indexOf("gs 123")), "error 1 at " + text.indexOf("bags"));
        spec.due("cut in the last number", answer(x, FLIGHT + "0", FLIGHT.length()), "loaded 0 -1");
        spec.due("its CLOSE", x.closeOf(0), 40);
        spec.due("with it", answer(x, FLIGHT + "0", FLIGHT.length() + 1), "loaded 0 -1");
        spec.due("its CLOSE", x.closeOf(0), 400);
        spec.due("nothing", answer(new BaggageLoop(), FLIGHT, 0), "error 1 at 0");
    }

    private static void wrongTokens() {
        says("1: a byte that starts no token, a word of 9 or more letters, a number of 6 or more digits, a token that the "
                + "grammar does not allow here, or the end of the text where a line is not complete.");
        for (char c : new char[] {0, 1, '\t', '"', '#', '*', '+', ',', '-', '.', '/', ':', '?', '@', 'A', 'Z', '[', '`', '{',
            '~', 127, 128, 255}) {
            bad(1, FLIGHT + ";!" + c);
            bad(1, FLIGHT + ";lane !" + c + "2 1");
            bad(1, KEEP + "load!" + c + "1");
        }
        for (int letters = 1; letters <= 12; letters++) {
            bad(1, FLIGHT + ";!" + "z".repeat(letters) + " 2 1");
            bad(1, FLIGHT + ";lane !" + "z".repeat(letters) + " 1");
        }
        for (int digits = 6; digits <= 25; digits++) {
            bad(1, FLIGHT + ";lane !" + "0".repeat(digits - 1) + "2 1");
            bad(1, FLIGHT + ";lane !" + "9".repeat(digits) + " 1");
        }
        bad(2, FLIGHT + ";lane !99999 1");
        good(FLIGHT + ";lane 00002 00001");
        bad(1, FLIGHT + ";!loop 4 0 1");
        bad(1, FLIGHT + ";!hot 4");
        bad(1, FLIGHT + ";!seed 4");
        bad(1, FLIGHT + ";!level 1 1 1");
        bad(1, FLIGHT + ";!and");
        bad(1, FLIGHT + ";!(");
        bad(1, FLIGHT + ";!4");
        bad(1, FLIGHT + "!=");
        bad(1, FLIGHT + ";lane 2 1!)");
        bad(1, FLIGHT + ";bags");
        bad(1, FLIGHT + ";bags 1 1");
    }

    private static void numbersOutOfBounds() {
        says("2: a number out of its bounds (also a FLIGHT that does not exist).");
        bad(2, FLIGHT.replace("loop 10", "loop !3"));
        bad(2, FLIGHT.replace("loop 10", "loop !41"));
        bad(2, FLIGHT + ";bags 0 1 !1");
        bad(2, FLIGHT + ";bags 0 1 !99999");
        bad(2, HEAD + ";bags 0 1 !0");
        bad(2, EIGHT + ";bags 0 1 !8");
        good(EIGHT + ";bags 0 1 7");
    }

    private static void takenPositions() {
        says("3: a PROBLEM that is ENTRY; a POSITION that is ENTRY, PROBLEM or the POSITION of an earlier line.");
        for (int[] loop : new int[][] {{4, 0}, {4, 3}, {40, 0}, {40, 31}, {40, 32}, {40, 39}}) {
            bad(3, "loop " + loop[0] + " " + loop[1] + " !" + loop[1] + LEVELS + ";flight 2 0 1");
        }
        String forty = "loop 40 39 32" + LEVELS + ";flight 38 0 1;lane 37 1;flight 0 0 1;lane 31 1";
        for (int taken : new int[] {39, 32, 38, 37, 0, 31}) {
            bad(3, forty + ";flight !" + taken + " 0 1");
            bad(3, forty + ";lane !" + taken + " 1");
            bad(3, forty + ";lane !" + String.format("%05d", taken) + " 1");
        }
        for (int free : new int[] {1, 30, 33, 36, 7}) {
            good(forty + ";flight " + free + " 0 1");
            good(forty + ";lane " + free + " 1");
        }
        bad(2, forty + ";lane !64 1");
        bad(2, forty + ";lane !71 1");
        bad(2, forty + ";lane !40 1");
        // The positions of a text that failed are free for the next one.
        BaggageLoop x = new BaggageLoop();
        spec.due("fails", answer(x, FLIGHT + ";lane 2 0", FLIGHT.length() + 9), "error 2 at " + (FLIGHT.length() + 8));
        spec.due("loads", answer(x, FLIGHT + ";lane 2 1", FLIGHT.length() + 9), "loaded 0 -1");
    }

    private static void tooManyLines() {
        says("4: a ninth flight, a fifth lane, a fifth shift line or a fourth keep line (at the first word of the line).");
        String[][] lines = {{EIGHT, "flight 9 0 1"}, {FLIGHT + ";lane 1 1;lane 2 1;lane 4 1;lane 6 1", "lane 7 1"},
            {FLIGHT + ";shift 1 0 0 1".repeat(4), "shift 1 0 0 1"}, {FLIGHT + ";keep load<1".repeat(3), "keep load<1"}};
        for (String[] l : lines) {
            String word = l[1].substring(0, l[1].indexOf(' '));
            good(l[0]);
            bad(4, l[0] + ";!" + l[1]);
            bad(4, l[0] + " ;  !" + l[1]);
            bad(4, l[0] + ";!" + word);
            bad(4, l[0] + ";!" + word + " #");
            bad(4, l[0] + ";bags 0 1 0;!" + l[1]);
            bad(1, l[0] + ";!" + word + "s");
            bad(1, l[0] + ";");
        }
    }

    private static void noFlight() {
        says("5: at the end of the text: no flight.");
        bad(5, HEAD);
        bad(5, HEAD + " ");
        bad(5, HEAD + ";lane 2 1");
        bad(5, HEAD + ";lane 2 1;shift 1 0 0 1;keep load<1");
        bad(1, HEAD + ";");
        good(HEAD + ";lane 2 1;flight 3 0 1");
    }

    private static void tooDeep() {
        says("6: a unit that is inside more than 9 other units (at its first token).");
        for (int bits = 0; bits < 1024; bits++) {
            bad(6, KEEP + nested(10, bits, "!load<1"));
        }
        bad(6, KEEP + nested(10, 0, "!not load<1"));
        bad(6, KEEP + nested(10, 0, "!(load<1)"));
        bad(6, KEEP + nested(10, 0, "!(zzz"));
        bad(6, KEEP + nested(10, 1023, "!load"));
        bad(6, KEEP + nested(9, 511, "load<1 and not !load<1"));
        bad(6, KEEP + nested(9, 511, "load<1 or (!load<1)"));
        bad(6, KEEP + "load<1 and " + nested(10, 682, "!load<1"));
        bad(6, KEEP + nested(9, 0, "load<1") + " or " + nested(10, 0, "!time=1"));
        bad(1, KEEP + nested(10, 0, "!and"));
        bad(1, KEEP + nested(10, 0, "!1"));
    }
}
