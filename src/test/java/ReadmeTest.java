import java.io.File;
import java.lang.reflect.Method;
import java.lang.reflect.Modifier;
import java.nio.file.Files;
import java.nio.file.Path;
import java.util.regex.Matcher;
import java.util.regex.Pattern;
import java.util.spi.ToolProvider;

/** README.md: its example gives the answers that stand behind its calls, and it names every call and every test. */
public final class ReadmeTest {
    private static final Pattern ANSWERED = Pattern.compile("(?m)^(x\\.\\w+\\(.*\\)); +// (-?\\d+)\\b.*$");

    private static final Check check = new Check();

    public static void main(String[] args) throws Exception {
        String readme = Files.readString(Path.of("README.md"));
        example(readme);
        calls(readme);
        errors(readme);
        tests(readme);
        check.end();
    }

    /** What the compiled example calls for each answered line. */
    public static void due(String call, int got, int want) {
        check.due("the example's " + call, got, want);
    }

    private static void example(String readme) throws Exception {
        int start = readme.indexOf("```java\n") + "```java\n".length();
        String example = readme.substring(start, readme.indexOf("```", start));
        Matcher line = ANSWERED.matcher(example);
        int answers = (int) line.results().count();
        check.due("the example has answers", answers > 10, true);
        String code = line.replaceAll("ReadmeTest.due(\"$1\", $1, $2);");
        Path out = Files.createTempDirectory("readme");
        Path source = out.resolve("Example.java");
        Files.writeString(source, "public final class Example { public static void run() {\n" + code + "} }\n");
        int failed = ToolProvider.findFirst("javac").orElseThrow().run(System.out, System.out, "-cp",
                System.getProperty("java.class.path"), "-d", out.toString(), source.toString());
        check.due("the example compiles", failed, 0);
        if (failed == 0) {
            int before = check.done();
            run(out);
            check.due("all answers were compared", check.done() - before, answers);
        }
        for (File f : out.toFile().listFiles()) {
            Files.delete(f.toPath());
        }
        Files.delete(out);
    }

    private static void run(Path out) throws Exception {
        try (java.net.URLClassLoader loader = new java.net.URLClassLoader(new java.net.URL[] {out.toUri().toURL()})) {
            loader.loadClass("Example").getMethod("run").invoke(null);
        }
    }

    private static void calls(String readme) {
        int methods = 0;
        for (Method m : BaggageLoop.class.getDeclaredMethods()) {
            if (Modifier.isPublic(m.getModifiers())) {
                check.due("README.md names " + m.getName(), readme.contains("`" + m.getName() + "`"), true);
                methods++;
            }
        }
        check.due("methods", methods, 64);
    }

    /** The codes of the parse errors, and the keep line that is shown. */
    private static void errors(String readme) {
        String header = "loop 10 0 5 level 1 2 0 level 1 1 0 level 1 1 0 hot 5 seed 1";
        String flight = ";flight 3 10 40";
        Matcher keep = Pattern.compile("`(keep [^T`]*)`").matcher(readme);
        check.due("a keep line is shown", keep.find(), true);
        check.due("it is right", error(header + flight + ";" + keep.group(1)), 0);
        check.due("1 a wrong token", error(header + ";plane 1"), 1);
        check.due("1 an incomplete line", error(header + ";flight 3 10"), 1);
        check.due("2 a number out of its bounds", error(header + ";flight 3 10 10"), 2);
        check.due("3 a position that is taken", error(header + flight + ";lane 3 1"), 3);
        check.due("4 a line too many", error(header + flight + ";keep load<1".repeat(4)), 4);
        check.due("5 no flight", error(header), 5);
        check.due("6 nested too deep", error(header + flight + ";keep " + "not ".repeat(10) + "load<1"), 6);
    }

    private static int error(String text) {
        BaggageLoop x = new BaggageLoop();
        try {
            Check.load(x, text);
        } catch (IllegalArgumentException e) {
            check.due("the buffer after an error", x.buffered(), 0);
        }
        return x.parseError();
    }

    private static void tests(String readme) {
        for (File f : new File("src/test/java").listFiles()) {
            String name = f.getName().replace(".java", "");
            check.due("README.md names " + name, readme.contains("`" + name + "`"), true);
        }
    }
}
