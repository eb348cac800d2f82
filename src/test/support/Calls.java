import java.lang.reflect.InvocationTargetException;
import java.lang.reflect.Method;
import java.util.ArrayList;
import java.util.Arrays;
import java.util.List;
import java.util.function.Supplier;

/** Calls by their names, with arguments at, below and above their bounds. */
final class Calls {
    static final int MIN = Integer.MIN_VALUE;
    static final int MAX = Integer.MAX_VALUE;
    static final String NO_AIRPORT = "Throws `IllegalStateException` if there is no airport (no text was loaded)";

    /** The bounds of an argument, and what is thrown beyond them. */
    record Range(int low, int high, Class<? extends RuntimeException> beyond) {
        boolean has(int value) {
            return value >= low && value <= high;
        }

        /** A bound that is none, as of an empty lane, has no good value. */
        int[] edges() {
            return new int[] {low, high, low - 1, high + 1, MIN, MAX};
        }
    }

    private final Spec spec;

    Calls(Spec spec) {
        this.spec = spec;
    }

    static Range index(int size) {
        return new Range(0, size - 1, Check.IOOBE);
    }

    static Range number(int low, int high) {
        return new Range(low, high, Check.IAE);
    }

    static Object call(BaggageLoop x, String name, Object... arguments) {
        for (Method m : BaggageLoop.class.getMethods()) {
            if (m.getName().equals(name) && m.getParameterCount() == arguments.length) {
                try {
                    return m.invoke(x, arguments);
                } catch (InvocationTargetException e) {
                    throw (RuntimeException) e.getCause();
                } catch (IllegalAccessException e) {
                    throw new IllegalCallerException(e);
                }
            }
        }
        throw new IllegalCallerException("there is no method " + name);
    }

    static int parameters(String name) {
        for (Method m : BaggageLoop.class.getMethods()) {
            if (m.getName().equals(name)) {
                return m.getParameterCount();
            }
        }
        throw new IllegalCallerException("there is no method " + name);
    }

    /** Quotes the sentence that a call without an airport throws, and tries it. */
    void needsAirport(String name) {
        spec.says(NO_AIRPORT);
        withoutAirport(name);
    }

    /** Without an airport a call throws and changes nothing, whatever its arguments are. */
    void withoutAirport(String name) {
        for (int value : new int[] {0, 1, -1, MIN, MAX}) {
            Object[] arguments = new Object[parameters(name)];
            Arrays.fill(arguments, value);
            if (name.equals("block")) {
                arguments[1] = true;
            }
            spec.refused(name + " " + value + " without an airport", Check.ISE, Airports.EMPTY, x -> call(x, name, arguments));
            spec.refused(name + " " + value + " after a failed load", Check.ISE, Airports.FAILED, x -> call(x, name, arguments));
        }
    }

    /**
     * Tries all arguments at and beyond their bounds. What is thrown is the first that the document lists of those that
     * apply; a call that is refused because of one argument, or of all of them, is looked at closely.
     */
    void arguments(Supplier<BaggageLoop> maker, String name, Range... ranges) {
        tryAll(maker, name, ranges, new ArrayList<>());
    }

    private void tryAll(Supplier<BaggageLoop> maker, String name, Range[] ranges, List<Object> chosen) {
        if (chosen.size() == ranges.length) {
            tryOne(maker, name, ranges, chosen);
            return;
        }
        for (int value : ranges[chosen.size()].edges()) {
            List<Object> more = new ArrayList<>(chosen);
            more.add(value);
            tryAll(maker, name, ranges, more);
        }
    }

    private void tryOne(Supplier<BaggageLoop> maker, String name, Range[] ranges, List<Object> chosen) {
        int wrong = 0;
        Class<? extends RuntimeException> want = null;
        for (int i = 0; i < ranges.length; i++) {
            if (!ranges[i].has((Integer) chosen.get(i))) {
                wrong++;
                want = first(name, want, ranges[i].beyond());
            }
        }
        Object[] arguments = chosen.toArray();
        String what = name + chosen;
        if (wrong == 1 || wrong > 1 && wrong == ranges.length) {
            spec.refused(what, want, maker, x -> call(x, name, arguments));
        } else {
            BaggageLoop x = maker.get();
            spec.fails(what, want, () -> call(x, name, arguments));
        }
    }

    private Class<? extends RuntimeException> first(String name, Class<? extends RuntimeException> one,
            Class<? extends RuntimeException> other) {
        List<String> listed = spec.document.exceptions(name);
        int place = listed.indexOf(other.getSimpleName());
        spec.due(name + " lists " + other.getSimpleName(), place >= 0, true);
        return one == null || place < listed.indexOf(one.getSimpleName()) ? other : one;
    }
}
