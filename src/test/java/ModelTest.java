import java.lang.reflect.InvocationTargetException;
import java.lang.reflect.Method;
import java.lang.reflect.Modifier;
import java.util.ArrayList;
import java.util.Arrays;
import java.util.Comparator;
import java.util.List;
import java.util.Random;

/** Long runs of calls, which BaggageLoop and the plain model in the tests must answer alike. */
public final class ModelTest {
    private static final int RUNS = 400;
    private static final int CALLS = 500;
    private static final List<String> CHANGES = List.of("advance", "addBags", "delay", "offload", "block", "setHot",
            "breakMachine", "stopLoop", "reroute", "undo", "save", "restore", "advance", "advance", "advance");

    private static final Check check = new Check();
    private static final int[] parseErrors = new int[7];
    private static final List<Method> methods = new ArrayList<>();

    public static void main(String[] args) throws Exception {
        for (Method m : Model.class.getDeclaredMethods()) {
            if (Modifier.isPublic(m.getModifiers()) && !List.of("append", "load").contains(m.getName())) {
                methods.add(m);
            }
        }
        methods.sort(Comparator.comparing(Method::getName));
        for (int run = 0; run < RUNS; run++) {
            oneRun(run);
        }
        for (int run = 0; run < 3000; run++) {
            oneParse(run);
        }
        for (int code = 0; code < parseErrors.length; code++) {
            check.due("texts with the parse error " + code, parseErrors[code] >= 20, true);
        }
        check.end();
    }

    private static void oneRun(int seed) throws Exception {
        Random random = new Random(seed);
        RandomText texts = new RandomText(random);
        BaggageLoop x = new BaggageLoop();
        Model y = new Model();
        int calls = 0;
        while (calls < CALLS) {
            if (calls == 0 || random.nextInt(150) == 0) {
                calls += loadBoth("run " + seed, x, y, anyText(random, texts));
            }
            Method m = methods.get(random.nextInt(methods.size()));
            if (random.nextInt(4) == 0) {
                String name = CHANGES.get(random.nextInt(CHANGES.size()));
                m = methods.stream().filter(k -> k.getName().equals(name)).findFirst().orElseThrow();
            }
            callBoth("run " + seed + " call " + calls, m, arguments(m, random, texts), x, y);
            calls++;
        }
    }

    private static String anyText(Random random, RandomText texts) {
        switch (random.nextInt(8)) {
            case 0:
                return texts.bad();
            case 1:
                return texts.nearlyGood();
            case 2, 3, 4:
                return texts.storing();
            default:
                return texts.good();
        }
    }

    private static void oneParse(int seed) throws Exception {
        RandomText texts = new RandomText(new Random(100000 + seed));
        BaggageLoop x = new BaggageLoop();
        Model y = new Model();
        loadBoth("parse " + seed, x, y, seed % 2 == 0 ? texts.bad() : texts.nearlyGood());
        parseErrors[x.parseError()]++;
    }

    private static int loadBoth(String what, BaggageLoop x, Model y, String text) throws Exception {
        String kept = text.length() > 1200 ? text.substring(0, 1200) : text;
        int calls = 0;
        Method append = Model.class.getMethod("append", int.class, int.class, int.class, int.class, int.class);
        for (int i = 0; i < kept.length(); i += 20) {
            Object[] words = new Object[5];
            for (int k = 0; k < 5; k++) {
                int word = 0;
                for (int b = 0; b < 4; b++) {
                    int at = i + 4 * k + b;
                    word = word << 8 | (at < kept.length() ? kept.charAt(at) & 255 : 32);
                }
                words[k] = word;
            }
            callBoth(what, append, words, x, y);
            calls++;
        }
        callBoth(what + " " + kept, Model.class.getMethod("load", int.class), new Object[] {kept.length()}, x, y);
        callBoth(what + " " + kept, Model.class.getMethod("parseError"), new Object[0], x, y);
        callBoth(what + " " + kept, Model.class.getMethod("errorPosition"), new Object[0], x, y);
        return calls + 3;
    }

    private static Object[] arguments(Method m, Random random, RandomText texts) {
        Class<?>[] types = m.getParameterTypes();
        Object[] all = new Object[types.length];
        for (int i = 0; i < all.length; i++) {
            all[i] = types[i] == boolean.class ? (Object) random.nextBoolean() : (Object) number(m, i, random, texts);
        }
        return all;
    }

    private static int number(Method m, int i, Random random, RandomText texts) {
        if (random.nextInt(40) == 0) {
            int[] wild = {-1, -2, Integer.MIN_VALUE, Integer.MAX_VALUE, 0, 101, 501, 201, 1000, 14};
            return wild[random.nextInt(wild.length)];
        }
        int kind = random.nextInt(3);
        int small = kind == 0 ? texts.pick(0, 2) : texts.pick(0, 8);
        switch (m.getName()) {
            case "stateOf", "flightOf", "arrivalOf", "positionOf", "lapsOf", "levelOf", "laneOf", "ticksTo",
                    "finishedAt", "isHot", "isKept", "offload":
                return kind == 0 ? texts.pick(0, 5) : texts.pick(0, 99);
            case "reroute":
                return i == 0 ? texts.pick(0, 40) : small;
            case "bagAt", "reportByte", "mapByte", "timetableByte":
                return texts.pick(0, 40);
            case "event":
                return i == 0 ? texts.pick(0, kind == 0 ? 10 : 150) : texts.pick(0, 3);
            case "countOf":
                return i == 0 ? small : texts.pick(0, 13);
            case "percentile":
                return i == 0 ? small : texts.pick(1, 100);
            case "loadedIn", "shortIn", "timeToClear":
                return texts.pick(1, kind == 0 ? 500 : 80);
            case "advance":
                return texts.pick(1, kind == 0 && random.nextInt(8) == 0 ? 500 : 12);
            case "bestDelay", "withoutLane":
                return i == 0 ? texts.pick(0, 3) : texts.pick(1, 200);
            case "addBags":
                return i == 0 ? texts.pick(1, 20) : i == 1 ? texts.pick(1, 6) : small;
            case "delay":
                return i == 0 ? small : texts.pick(1, 30);
            case "setHot", "stopLoop":
                return texts.pick(0, kind == 0 ? 999 : 10);
            case "breakMachine":
                return i == 0 ? texts.pick(1, 3) : i == 1 ? texts.pick(0, 3) : texts.pick(1, kind == 0 ? 999 : 12);
            case "machineAt", "brokenUntil":
                return i == 0 ? texts.pick(1, 3) : texts.pick(0, 3);
            case "waiting":
                return texts.pick(1, 4);
            case "queueAt":
                return i == 0 ? texts.pick(1, 4) : small;
            case "laneAt", "laneSize", "block":
                return i == 0 ? texts.pick(0, 3) : small;
            case "save", "restore":
                return texts.pick(0, 1);
            default:
                return small;
        }
    }

    private static void callBoth(String what, Method m, Object[] arguments, BaggageLoop x, Model y) throws Exception {
        Method own = BaggageLoop.class.getMethod(m.getName(), m.getParameterTypes());
        check.due(what + ": " + m.getName() + Arrays.toString(arguments), answer(own, x, arguments),
                answer(m, y, arguments));
    }

    private static Object answer(Method m, Object target, Object[] arguments) throws Exception {
        try {
            return m.invoke(target, arguments);
        } catch (InvocationTargetException e) {
            return "throws " + e.getCause().getClass().getSimpleName();
        }
    }
}
