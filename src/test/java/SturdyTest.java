import java.lang.reflect.InvocationTargetException;
import java.lang.reflect.Method;
import java.lang.reflect.Modifier;
import java.util.ArrayList;
import java.util.Comparator;
import java.util.List;
import java.util.Random;

/**
 * Rule 7 of LANGUAGE.md: whatever the arguments are, and long after the 512th call, a call ends and throws nothing but
 * what the document lists for it. What such late calls answer is free and is not looked at.
 */
public final class SturdyTest {
    private static final int OBJECTS = 12;
    private static final int CALLS = 8000;
    private static final int[] WILD = {Integer.MIN_VALUE, Integer.MIN_VALUE + 1, -65536, -1000, -1, 99, 100, 101, 500,
        501, 999, 1000, 1200, 1201, 9999, 10000, 65536, 1 << 30, Integer.MAX_VALUE - 1, Integer.MAX_VALUE};

    private static final Check check = new Check();
    private static final List<Method> methods = new ArrayList<>();

    public static void main(String[] args) throws Exception {
        for (Method m : BaggageLoop.class.getDeclaredMethods()) {
            if (Modifier.isPublic(m.getModifiers())) {
                methods.add(m);
            }
        }
        methods.sort(Comparator.comparing(Method::getName));
        for (int seed = 0; seed < OBJECTS; seed++) {
            manyCalls(new Random(seed));
        }
        farTimes();
        check.end();
    }

    private static void manyCalls(Random random) throws Exception {
        RandomText texts = new RandomText(random);
        BaggageLoop x = new BaggageLoop();
        for (int call = 0; call < CALLS; call++) {
            if (call > 60 && random.nextInt(400) == 0) {
                Check.fill(x, random.nextBoolean() ? texts.storing() : random.nextBoolean() ? texts.good() : texts.bad());
            }
            Method m = methods.get(random.nextInt(methods.size()));
            Object[] arguments = new Object[m.getParameterCount()];
            for (int i = 0; i < arguments.length; i++) {
                boolean truth = m.getParameterTypes()[i] == boolean.class;
                arguments[i] = truth ? (Object) random.nextBoolean() : (Object) argument(random, m.getName(), x);
            }
            call(m, x, arguments);
        }
    }

    private static int argument(Random random, String method, BaggageLoop x) {
        if (method.equals("load") && random.nextInt(3) > 0) {
            return x.buffered();
        }
        int kind = random.nextInt(8);
        return kind == 0 ? WILD[random.nextInt(WILD.length)] : kind == 1 ? random.nextInt() : random.nextInt(kind * 8);
    }

    private static void call(Method m, BaggageLoop x, Object[] arguments) throws Exception {
        try {
            m.invoke(x, arguments);
        } catch (InvocationTargetException e) {
            boolean listed = List.of(m.getExceptionTypes()).contains(e.getCause().getClass());
            check.due(m.getName() + List.of(arguments) + " may throw " + e.getCause(), listed, true);
        }
    }

    /** Delays until CLOSE is beyond all ints, and texts that tell it. */
    private static void farTimes() throws Exception {
        BaggageLoop x = Check.loaded(Airports.RICH_TEXT);
        Method delay = BaggageLoop.class.getMethod("delay", int.class, int.class);
        for (int i = 0; i < 2300000; i++) {
            if (x.flightState(0) == 2) {
                break;
            }
            x.delay(0, 999);
        }
        call(delay, x, new Object[] {0, 999});
        for (String name : List.of("timetable", "report", "map", "undo")) {
            call(BaggageLoop.class.getMethod(name), x, new Object[0]);
        }
        for (String name : List.of("advance", "loadedIn", "shortIn", "timeToClear")) {
            call(BaggageLoop.class.getMethod(name, int.class), x, new Object[] {500});
        }
    }
}
