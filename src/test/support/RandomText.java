import java.util.List;
import java.util.Random;
import java.util.regex.MatchResult;
import java.util.regex.Pattern;

/** Texts of airports: good ones, and good ones with something wrong. */
final class RandomText {
    private final Random random;

    RandomText(Random random) {
        this.random = random;
    }

    int pick(int low, int high) {
        return low + random.nextInt(high - low + 1);
    }

    private int pickOf(int... values) {
        return values[random.nextInt(values.length)];
    }

    private String pickOf(String... values) {
        return values[random.nextInt(values.length)];
    }

    String good() {
        int length = pickOf(4, 5, 6, 8, 10, 12, 20, 40);
        StringBuilder text = new StringBuilder("loop " + length);
        int[] places = random.ints(0, length).distinct().limit(length).toArray();
        text.append(" " + places[0] + " " + places[1]);
        for (int level = 1; level <= 3; level++) {
            text.append(" level " + pick(1, 4) + " " + pickOf(1, 1, 2, 3, 5) + " " + pickOf(0, 200, 500, 900, 1000));
        }
        text.append(" hot " + pickOf(0, 5, 20, 100) + " seed " + pick(0, 99999));
        int flights = pick(1, Math.min(8, length - 2));
        int lanes = pick(0, Math.min(4, length - 2 - flights));
        for (int f = 0; f < flights; f++) {
            int open = pickOf(0, pick(0, 30), pick(10, 80), pick(0, 200));
            text.append(";flight " + places[2 + f] + " " + open + " " + (open + pickOf(1, pick(1, 20), pick(10, 150))));
        }
        for (int l = 0; l < lanes; l++) {
            text.append("; lane " + places[2 + flights + l] + " " + pickOf(1, 2, 3, 20));
        }
        int left = 100;
        for (int b = pick(0, 6); b > 0 && left > 0; b--) {
            int count = pick(1, Math.min(left, pickOf(2, 5, 30, 100)));
            left -= count;
            text.append(" ;bags " + pickOf(0, pick(0, 20), pick(0, 100)) + " " + count + " " + pick(0, flights - 1));
        }
        for (int h = pickOf(0, 0, 1, 4); h > 0; h--) {
            int from = pick(0, 60);
            text.append(" ; shift " + pick(1, 3) + " " + pick(0, 3) + " " + from + " " + (from + pick(0, 40)));
        }
        for (int k = pickOf(0, 1, 2, 3); k > 0; k--) {
            text.append(";keep " + test(0));
        }
        return text.toString();
    }

    /** Quick screening, late flights and lanes: most bags are stored, some of them again after a reroute. */
    String storing() {
        int length = pickOf(6, 8, 10, 16, 40);
        int[] places = random.ints(0, length).distinct().limit(length).toArray();
        StringBuilder text = new StringBuilder("loop " + length + " " + places[0] + " " + places[1]);
        for (int level = 1; level <= 3; level++) {
            text.append(" level " + pick(2, 4) + " 1 " + pickOf(0, 0, 50));
        }
        text.append(" hot " + pickOf(0, 10, 100) + " seed " + pick(0, 99999));
        int lanes = pick(1, Math.min(4, length - 4));
        int flights = pick(2, Math.min(8, length - 2 - lanes));
        int late = pickOf(20, 60, 200, 900);
        for (int f = 0; f < flights; f++) {
            int open = pick(late / 2, late + 10 * f);
            text.append(";flight " + places[2 + f] + " " + open + " " + (open + pickOf(pick(1, 30), pick(50, 900))));
        }
        for (int l = 0; l < lanes; l++) {
            text.append(";lane " + places[2 + flights + l] + " " + pickOf(1, 2, 5, 20));
        }
        for (int b = pick(1, 5); b > 0; b--) {
            text.append(";bags " + pick(0, 60) + " " + pick(1, 20) + " " + pick(0, flights - 1));
        }
        for (int k = pickOf(0, 0, 1, 3); k > 0; k--) {
            text.append(";keep " + test(0));
        }
        return text.toString();
    }

    private String test(int depth) {
        StringBuilder text = new StringBuilder(unit(depth));
        for (int more = pickOf(0, 0, 1, 2); more > 0; more--) {
            text.append(pickOf(" and ", " or ")).append(unit(depth));
        }
        return text.toString();
    }

    private String unit(int depth) {
        int kind = pick(0, 5);
        if (kind == 0 && depth < 9) {
            return "not " + unit(depth + 1);
        }
        if (kind == 1 && depth < 9) {
            return "(" + test(depth + 1) + ")";
        }
        return pickOf("wait", "laps", "level", "load", "time") + pickOf("<", ">", "=", " < ", "> ")
                + pickOf(0, 1, 2, 3, 10, 40);
    }

    /** A good text with one thing changed that the grammar allows: a number, more lines, fewer lines, or a deep test. */
    String nearlyGood() {
        String text = good();
        switch (pick(0, 3)) {
            case 0:
                return withOtherNumber(text);
            case 1:
                for (int more = pick(1, 8); more > 0; more--) {
                    text += pickOf(";flight " + pick(0, 9) + " 1 2", ";lane " + pick(0, 9) + " 3", ";bags 0 30 0",
                            ";shift 1 1 1 1", ";keep load<3");
                }
                return text;
            case 2:
                return text.replaceAll(pickOf(";flight[^;]*", ";[^f][^;]*", ";flight.*"), "");
            default:
                int deep = pick(7, 11);
                String signs = pickOf("not ", "(", "not (");
                return text + ";keep " + signs.repeat(deep) + "wait<3"
                        + (signs.endsWith("(") ? ")".repeat(deep) : "") + pickOf("", " or load>2", " and", ")");
        }
    }

    private String withOtherNumber(String text) {
        List<MatchResult> numbers = Pattern.compile("\\d+").matcher(text).results().toList();
        MatchResult number = numbers.get(random.nextInt(numbers.size()));
        int value = Integer.parseInt(number.group());
        int earlier = Integer.parseInt(numbers.get(random.nextInt(3)).group());
        int other = pickOf(value + 1, Math.max(value - 1, 0), earlier, 0, 4, 5, 20, 21, 41, 99, 100, 101, 999, 1000, 1001,
                1999, 2000, 9999, 10000, 99999);
        return text.substring(0, number.start()) + other + text.substring(number.end());
    }

    String bad() {
        StringBuilder text = new StringBuilder(good());
        for (int changes = pickOf(1, 1, 2); changes > 0; changes--) {
            int at = random.nextInt(text.length());
            String piece = pickOf("x", "9", "0", ";", "(", ")", "<", " ", "not ", " 99999 ", " 123456 ",
                    "abcdefghi", "flight 0 0 1;", ";lane 1 1", ";keep load<1", "#", "\0", "\u00e9", "A",
                    "not not not not not not not not not ", ";bags 0 100 0", " or ");
            switch (pick(0, 3)) {
                case 0 -> text.insert(at, piece);
                case 1 -> text.replace(at, at + 1, piece);
                case 2 -> text.deleteCharAt(at);
                default -> text.setLength(Math.max(at, 1));
            }
        }
        return text.toString();
    }
}
