import java.util.function.Consumer;
import java.util.function.Supplier;

/**
 * A test that follows the document sentence by sentence: each quotation must stand in the document, each must have a
 * check of its own, and at the end no word of the sections may be left over.
 */
final class Spec {
    final Document document = new Document();
    private final Check check = new Check();
    private String section = "";
    private String sentence = "";
    private int checksBefore = -1;

    void of(String newSection) {
        needChecks();
        section = newSection;
        sentence = "";
        checksBefore = -1;
    }

    void says(String words) {
        needChecks();
        sentence = words;
        check.due(section + " says: " + words, document.quote(section, words), true);
        checksBefore = check.done();
    }

    private void needChecks() {
        if (checksBefore >= 0 && check.done() == checksBefore) {
            check.due("checks of " + name(""), "none", "some");
        }
    }

    private String name(String what) {
        return section + " \"" + sentence + "\": " + what;
    }

    void due(String what, Object got, Object want) {
        check.due(name(what), got, want);
    }

    void fails(String what, Class<? extends RuntimeException> want, Check.Call call) {
        check.fails(name(what), want, call);
    }

    /** A call that throws, and after which nothing can be told from an object on which it was never made. */
    void refused(String what, Class<? extends RuntimeException> want, Supplier<BaggageLoop> maker,
            Consumer<BaggageLoop> call) {
        BaggageLoop x = maker.get();
        fails(what, want, () -> call.accept(x));
        unchanged(what, maker, y -> {
            try {
                call.accept(y);
            } catch (RuntimeException e) {
                // Which one it is was looked at above.
            }
        });
    }

    /** A call after which nothing can be told from an object on which it was never made. */
    void unchanged(String what, Supplier<BaggageLoop> maker, Consumer<BaggageLoop> call) {
        for (Views.Probe probe : Views.PROBES) {
            BaggageLoop x = maker.get();
            call.accept(x);
            due(what + " changes nothing", probe.look(x), Views.expected(maker, probe));
        }
    }

    void end(String... sections) {
        needChecks();
        for (String s : sections) {
            check.due("words of section " + s + " without a test", String.join(" | ", document.unquoted(s)), "");
        }
        check.end();
    }
}
