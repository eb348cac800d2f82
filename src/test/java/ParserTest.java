/** The text format: bounds, errors and their positions. A mark ! in a text stands before the wrong token. */
public final class ParserTest {
    private static final String HEAD = "loop 10 0 5 level 1 2 0 level 1 1 0 level 1 1 0 hot 5 seed 1";
    private static final String FLIGHT = HEAD + ";flight 3 10 40";

    private static final Check check = new Check();

    public static void main(String[] args) {
        header();
        lines();
        tokens();
        tests();
        positions();
        counts();
        ends();
        check.end();
    }

    private static void good(String text) {
        BaggageLoop x = new BaggageLoop();
        String got = "loaded";
        try {
            Check.load(x, text);
        } catch (IllegalArgumentException e) {
            got = "error " + x.parseError() + " at " + x.errorPosition();
        }
        check.due(text, got, "loaded");
        check.due("parseError of " + text, x.parseError(), 0);
        check.due("errorPosition of " + text, x.errorPosition(), -1);
    }

    /** The error is at the mark, or at the end if there is none. */
    private static void bad(int code, String marked) {
        int mark = marked.indexOf('!');
        String text = mark < 0 ? marked : marked.substring(0, mark) + marked.substring(mark + 1);
        BaggageLoop x = new BaggageLoop();
        check.fails(text, Check.IAE, () -> Check.load(x, text));
        check.due("parseError of " + text, x.parseError(), code);
        check.due("errorPosition of " + text, x.errorPosition(), mark < 0 ? text.length() : mark);
    }

    private static void header() {
        good(FLIGHT);
        good("loop 4 3 2 level 4 99 1000 level 1 1 0 level 4 1 1 hot 999 seed 99999;flight 0 0 1");
        good("loop 40 39 0 level 1 1 0 level 1 1 0 level 1 1 0 hot 0 seed 0;flight 38 999 1999");
        bad(2, FLIGHT.replace("loop 10", "loop !3"));
        bad(2, FLIGHT.replace("loop 10", "loop !41"));
        bad(2, FLIGHT.replace("loop 10 0", "loop 10 !10"));
        bad(2, FLIGHT.replace("loop 10 0 5", "loop 10 0 !10"));
        bad(3, FLIGHT.replace("loop 10 0 5", "loop 10 5 !5"));
        bad(2, FLIGHT.replaceFirst("level 1 2 0", "level !0 2 0"));
        bad(2, FLIGHT.replaceFirst("level 1 2 0", "level !5 2 0"));
        bad(2, FLIGHT.replaceFirst("level 1 2 0", "level 1 !0 0"));
        bad(2, FLIGHT.replaceFirst("level 1 2 0", "level 1 !100 0"));
        bad(2, FLIGHT.replaceFirst("level 1 2 0", "level 1 2 !1001"));
        bad(2, FLIGHT.replaceFirst("hot 5", "hot !1000"));
        bad(1, FLIGHT.replaceFirst("seed 1", "seed !100000"));
        bad(1, FLIGHT.replaceFirst("loop", "!lop"));
        bad(1, FLIGHT.replaceFirst("loop", "!loops"));
        bad(1, FLIGHT.replaceFirst("level", "!lane"));
        bad(1, FLIGHT.replaceFirst("level 1 1 0 level 1 1 0 hot", "level 1 1 0 !hot"));
        bad(1, FLIGHT.replaceFirst("hot", "!level"));
        bad(1, FLIGHT.replaceFirst("seed", "!;"));
        bad(1, FLIGHT.replaceFirst("seed 1", "seed !seed"));
        bad(1, FLIGHT.replaceFirst("seed 1", "seed 1 !1"));
    }

    private static void lines() {
        good(FLIGHT + ";lane 2 1;lane 4 20;bags 0 1 0;bags 999 99 0;shift 1 0 0 0;shift 3 3 999 1999;keep load<9999");
        bad(2, HEAD + ";flight !10 0 1");
        bad(2, HEAD + ";flight 3 !1000 1001");
        bad(2, HEAD + ";flight 3 999 !2000");
        bad(2, HEAD + ";flight 3 10 !10");
        good(HEAD + ";flight 3 10 11");
        bad(2, FLIGHT + ";lane !10 1");
        bad(2, FLIGHT + ";lane 2 !0");
        bad(2, FLIGHT + ";lane 2 !21");
        bad(2, FLIGHT + ";bags !1000 1 0");
        bad(2, FLIGHT + ";bags 0 !0 0");
        bad(2, FLIGHT + ";bags 0 !101 0");
        good(FLIGHT + ";bags 0 100 0");
        bad(2, FLIGHT + ";bags 0 60 0;bags 0 !41 0");
        bad(2, FLIGHT + ";bags 0 100 0;bags 0 !1 0");
        bad(2, FLIGHT + ";bags 0 100 0;bags 0 !0 0");
        bad(2, FLIGHT + ";bags 0 1 !1");
        bad(2, HEAD + ";bags 0 1 !0;flight 3 10 40");
        good(FLIGHT + ";flight 7 0 1;bags 0 1 1");
        bad(2, FLIGHT + ";bags 0 1 !1;flight 7 0 1");
        bad(2, FLIGHT + ";shift !0 0 0 0");
        bad(2, FLIGHT + ";shift !4 0 0 0");
        bad(2, FLIGHT + ";shift 1 !4 0 0");
        bad(2, FLIGHT + ";shift 1 0 !1000 1000");
        bad(2, FLIGHT + ";shift 1 0 5 !4");
        bad(2, FLIGHT + ";shift 1 0 5 !2000");
        bad(1, FLIGHT + ";!loop 4 0 1");
        bad(1, FLIGHT + ";!hot 4");
        bad(1, FLIGHT + ";!;lane 2 1");
        bad(1, FLIGHT + ";!4");
        bad(1, FLIGHT + ";lane 2 1 !1");
        bad(1, FLIGHT + " !lane 2 1");
        bad(1, FLIGHT + ";lane 2 !;");
        bad(1, FLIGHT + ";lane !load 2");
        // The first wrong token counts, not the smallest code of all.
        bad(2, FLIGHT + ";lane !99 #");
        bad(2, FLIGHT + ";lane 2 !99#");
    }

    private static void tokens() {
        good("  loop10 0  5level1 2 0level1 1 0level 1 1 0hot5seed1;flight3 10 40;keep(load<1)and(time=3)or not wait>2   ");
        good(FLIGHT.replace("10 40", "00010 00040"));
        bad(1, FLIGHT.replace("10 40", "10 !000040"));
        bad(1, FLIGHT.replace("40", "!abcdefghi"));
        bad(1, FLIGHT.replace("flight", "!abcdefghi"));
        bad(1, FLIGHT.replace("flight", "!Flight"));
        bad(1, FLIGHT.replace("flight", "fl!ight").replace("fl!ight", "!fl ight"));
        for (int b = 0; b < 256; b++) {
            char c = (char) b;
            boolean token = c >= 'a' && c <= 'z' || c >= '0' && c <= '9' || "();<>=! ".indexOf(c) >= 0;
            if (!token) {
                bad(1, FLIGHT + ";!" + c + "lane 2 1");
                bad(1, FLIGHT + ";lane 2 1!" + c);
            }
        }
        bad(1, FLIGHT + ";lane 2 1 !-1");
        bad(1, FLIGHT + ";lane !-1 1");
        bad(1, FLIGHT + ";lane 2\t1".replace("\t", "!\t"));
        bad(1, FLIGHT + ";lane 2 1!.5");
    }

    private static void tests() {
        String keep = FLIGHT + ";keep ";
        good(keep + "wait<0 and laps>1 or level=2 and load<3 or time>9999");
        bad(2, keep + "wait<!10000");
        bad(2, keep + "wait<!99999");
        bad(1, keep + "wait<!100000");
        bad(1, keep + "!wai<1");
        bad(1, keep + "!hot<1");
        bad(1, keep + "wait!;");
        bad(1, keep + "wait !1");
        bad(1, keep + "wait<!=1");
        bad(1, keep + "wait<!wait");
        bad(1, keep + "!1<wait");
        bad(1, keep + "!and wait<1");
        bad(1, keep + "wait<1 !wait<1");
        bad(1, keep + "wait<1 and !or wait<1");
        bad(1, keep + "wait<1 and !;");
        bad(1, keep + "wait<1 !not wait<1");
        bad(1, keep + "(wait<1!;");
        bad(1, keep + "wait<1!)");
        bad(1, keep + "(!)");
        bad(1, keep + "not !)");
        bad(1, keep + "((wait<1)");
        bad(1, keep + "not");
        bad(1, keep + "(");
        bad(1, keep + "wait");
        bad(1, keep + "wait<");
        bad(1, keep + "wait<1 or");
        bad(1, keep.trim());
        depth(keep);
    }

    private static void depth(String keep) {
        String nots = "not ".repeat(9);
        good(keep + nots + "load<1");
        bad(6, keep + nots + "not !load<1");
        bad(6, keep + nots + "not !not load<1");
        bad(6, keep + nots + "not !(load<1)");
        bad(6, keep + nots + "(!load<1)");
        bad(1, keep + nots + "not !lane<1");
        bad(1, keep + nots + "not !)");
        bad(1, keep + nots + "not");
        String opens = "(".repeat(9);
        String closes = ")".repeat(9);
        good(keep + opens + "load<1 and load<2 or load<3" + closes + " and " + opens + "load>1" + closes);
        bad(6, keep + opens + "(!load<1" + closes + ")");
        bad(6, keep + opens + "load<1 or not !load<1" + closes);
        bad(1, keep + opens + "load<1!;");
        good(keep + "not (not (not (load<1 or not (not load<1))))");
        bad(6, keep + "not (not (not (load<1 or not (not not !load<1))))");
        // A unit beside another is not inside it.
        good(keep + "load<1" + " or not load<1".repeat(20));
    }

    private static void positions() {
        bad(3, HEAD + ";flight !0 10 40");
        bad(3, HEAD + ";flight !5 10 40");
        bad(3, FLIGHT + ";flight !3 10 40");
        bad(3, FLIGHT + ";lane !3 1");
        bad(3, FLIGHT + ";lane !0 1");
        bad(3, FLIGHT + ";lane !5 1");
        bad(3, FLIGHT + ";lane 2 1;flight !2 0 1");
        bad(3, FLIGHT + ";lane 2 1;lane !2 1");
        bad(3, FLIGHT + ";lane 2 1;lane !00002 0");
        bad(2, FLIGHT + ";lane !74 0");
        good(FLIGHT + ";lane 2 1;flight 9 0 1");
        String forty = "loop 40 39 38 level 1 1 0 level 1 1 0 level 1 1 0 hot 0 seed 0;flight 37 0 1";
        bad(3, forty + ";lane !39 1");
        bad(3, forty + ";lane !38 1");
        bad(3, forty + ";lane !37 1");
        good(forty + ";lane 5 1;lane 6 1;lane 7 1");
    }

    private static void counts() {
        String eight = HEAD + ";flight 1 0 9;flight 2 0 8;flight 3 0 7;flight 4 0 6;flight 6 0 5;flight 7 0 6"
                + ";flight 8 0 3;flight 9 0 1";
        good(eight);
        bad(4, eight + ";!flight 9 0 1");
        bad(4, eight + ";!flight");
        bad(1, eight + ";!flights");
        String lanes = FLIGHT + ";lane 1 1;lane 2 1;lane 4 1;lane 6 1";
        good(lanes);
        bad(4, lanes + "; !lane 7 1");
        String shifts = FLIGHT + ";shift 1 0 0 1".repeat(4);
        good(shifts);
        bad(4, shifts + ";!shift 1 0 0 1");
        String keeps = FLIGHT + ";keep load<1".repeat(3);
        good(keeps);
        bad(4, keeps + ";!keep load<1");
        good(FLIGHT + ";bags 1 1 0".repeat(50));
    }

    private static void ends() {
        bad(5, HEAD);
        bad(5, HEAD + "   ");
        bad(5, HEAD + ";lane 2 1");
        bad(1, HEAD + ";");
        bad(1, HEAD + ";lane 2");
        bad(1, FLIGHT + ";");
        bad(1, FLIGHT + " ; ");
        bad(1, FLIGHT + ";lane");
        bad(1, FLIGHT + ";bags 1 1");
        for (int n = 0; n < HEAD.length(); n++) {
            String part = HEAD.substring(0, n);
            boolean cut = n > 0 && part.charAt(n - 1) >= 'a' && HEAD.charAt(n) >= 'a';
            if (!cut) {
                BaggageLoop x = new BaggageLoop();
                check.fails(part, Check.IAE, () -> Check.load(x, part));
            }
        }
        bad(1, "");
        bad(1, "     ");
        // The first n bytes alone are the text.
        BaggageLoop x = new BaggageLoop();
        Check.fill(x, FLIGHT + ";lane 2 1;lane 2 1");
        check.due("a part of the buffer", x.load((FLIGHT + ";lane 2 1").length()), 0);
        check.due("lanes", x.lanes(), 1);
        // The longest text.
        String longest = FLIGHT + " ".repeat(1200 - FLIGHT.length());
        good(longest);
        bad(1, longest.substring(0, 1199) + ";");
        StringBuilder keep = new StringBuilder(FLIGHT + ";keep load<1");
        while (keep.length() + " or not load<1".length() <= 1200) {
            keep.append(" or not load<1");
        }
        BaggageLoop y = Check.loaded(keep.toString());
        check.due("a long test", y.keeps(), 1);
        StringBuilder odd = new StringBuilder(FLIGHT + ";bags 0 1 0;keep time=0");
        int nots = 0;
        while (odd.length() + " and not time=1".length() <= 1200) {
            odd.append(" and not time=1");
            nots++;
        }
        check.due("a long test holds", Check.loaded(odd.toString()).isKept(0), true);
        check.due("a long test has many units", nots > 60, true);
    }
}
