import java.nio.charset.StandardCharsets;
import java.util.Objects;
import java.util.function.IntSupplier;
import java.util.function.IntUnaryOperator;

/** Counts answers that are not due and ends a test with exit code 1 if there was one. */
final class Check {
    static final Class<IllegalStateException> ISE = IllegalStateException.class;
    static final Class<IllegalArgumentException> IAE = IllegalArgumentException.class;
    static final Class<IndexOutOfBoundsException> IOOBE = IndexOutOfBoundsException.class;

    /** A call whose answer does not matter. */
    interface Call {
        void make();
    }

    private int done = 0;
    private int wrong = 0;

    void due(String what, Object got, Object want) {
        done++;
        if (!Objects.equals(got, want)) {
            wrong++;
            System.out.println(what + " answered " + got + ", due is " + want);
        }
    }

    void fails(String what, Class<? extends RuntimeException> want, Call call) {
        Class<?> got = null;
        try {
            call.make();
        } catch (RuntimeException e) {
            got = e.getClass();
        }
        due(what + " throws", got, want);
    }

    /** Appends a text, with blanks behind it, and loads it. */
    static int load(BaggageLoop x, String text) {
        fill(x, text);
        return x.load(text.length());
    }

    static void fill(BaggageLoop x, String text) {
        byte[] bytes = text.getBytes(StandardCharsets.ISO_8859_1);
        for (int i = 0; i < bytes.length; i += 20) {
            int[] words = new int[5];
            for (int k = 0; k < 20; k++) {
                int b = i + k < bytes.length ? bytes[i + k] & 255 : 32;
                words[k / 4] = words[k / 4] << 8 | b;
            }
            x.append(words[0], words[1], words[2], words[3], words[4]);
        }
    }

    static BaggageLoop loaded(String text) {
        BaggageLoop x = new BaggageLoop();
        load(x, text);
        return x;
    }

    /** The text that a call writes and another one reads. */
    static String text(IntSupplier write, IntUnaryOperator read) {
        int size = write.getAsInt();
        StringBuilder all = new StringBuilder();
        for (int i = 0; i < size; i++) {
            all.append((char) read.applyAsInt(i));
        }
        return all.toString();
    }

    int done() {
        return done;
    }

    void end() {
        System.out.println(done + " checks, " + wrong + " wrong");
        if (wrong > 0 || done == 0) {
            System.exit(1);
        }
    }
}
