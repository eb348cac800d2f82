import java.lang.reflect.Constructor;
import java.lang.reflect.Field;
import java.lang.reflect.Method;
import java.lang.reflect.Modifier;
import java.nio.file.Files;
import java.nio.file.Path;
import java.util.ArrayList;
import java.util.List;
import java.util.Set;
import java.util.TreeSet;
import java.util.regex.Matcher;
import java.util.regex.Pattern;

/** The face of the document and no other member that can be seen, and the rules of LANGUAGE.md that can be looked up. */
public final class FaceTest {
    private static final Check check = new Check();

    public static void main(String[] args) throws Exception {
        Path document = Path.of("../shared/DOC.md");
        members(Files.readString(document));
        exceptions(new Document());
        promises(Files.readString(document));
        source(Files.readString(Path.of("src/main/java/BaggageLoop.java")));
        check.end();
    }

    private static void members(String document) {
        String face = document.substring(document.indexOf("```java") + 7, document.indexOf("}\n```"));
        Set<String> want = new TreeSet<>();
        Matcher line = Pattern.compile("public (\\w+) (\\w+)\\(([^)]*)\\)").matcher(face);
        while (line.find()) {
            want.add(line.group(1) + " " + line.group(2) + "(" + line.group(3).replaceAll(" \\w+(,|$)", "$1") + ")");
        }
        Set<String> got = new TreeSet<>();
        Set<String> publicNames = new TreeSet<>();
        for (Method m : BaggageLoop.class.getDeclaredMethods()) {
            if (!Modifier.isPrivate(m.getModifiers())) {
                publicNames.add(m.getName());
                List<String> types = new ArrayList<>();
                for (Class<?> type : m.getParameterTypes()) {
                    types.add(type.getSimpleName());
                }
                got.add(m.getReturnType().getSimpleName() + " " + m.getName() + "(" + String.join(", ", types) + ")");
                check.due(m.getName() + " is public alone", m.getModifiers(), Modifier.PUBLIC);
            }
        }
        check.due("the methods", got, want);
        check.due("64 methods", got.size(), 64);
        for (Field f : BaggageLoop.class.getDeclaredFields()) {
            check.due(f.getName() + " can be seen", !Modifier.isPrivate(f.getModifiers()), f.getName().equals("NONE"));
        }
        Constructor<?>[] constructors = BaggageLoop.class.getDeclaredConstructors();
        check.due("constructors", constructors.length, 1);
        check.due("constructor", constructors[0].getModifiers() + constructors[0].getParameterCount(), Modifier.PUBLIC);
        check.due("the class", BaggageLoop.class.getModifiers(), Modifier.PUBLIC | Modifier.FINAL);
        otherNames(BaggageLoop.class, publicNames);
    }

    /** What each method declares, in the order of the document, and that each promise tells of all that its face lists. */
    private static void exceptions(Document document) {
        int declared = 0;
        for (Method m : BaggageLoop.class.getDeclaredMethods()) {
            if (Modifier.isPublic(m.getModifiers())) {
                List<String> got = new ArrayList<>();
                for (Class<?> type : m.getExceptionTypes()) {
                    got.add(type.getSimpleName());
                }
                check.due("the exceptions of " + m.getName(), got, document.exceptions(m.getName()));
                declared += got.size();
            }
        }
        check.due("all exceptions", declared, 105);
        check.due("NONE", BaggageLoop.NONE, -1);
    }

    /** Each promise bears the name and the signature of the face, in its order, so that a test by its number means it. */
    private static void promises(String document) {
        String face = document.substring(document.indexOf("public BaggageLoop()"), document.indexOf("}\n```"));
        String[] signatures = face.split(";\\s*");
        Matcher promise = Pattern.compile("## Promise (\\d+): (.*)\n\n`(.*)`\n").matcher(document);
        int number = 0;
        while (promise.find()) {
            number++;
            check.due("the number of " + promise.group(2), promise.group(1), Integer.toString(number));
            check.due("the signature of promise " + number, "public " + promise.group(3), signatures[number - 1]);
            String name = promise.group(3).replaceAll("\\(.*", "").replaceAll(".* ", "");
            check.due("the name of promise " + number, promise.group(2), number == 1 ? "A new object" : name);
        }
        check.due("promises", number, 65);
        check.due("signatures", signatures.length, 65);
    }

    private static void otherNames(Class<?> type, Set<String> publicNames) {
        List<Class<?>> inside = List.of(type.getDeclaredClasses());
        check.due("few classes", inside.size() < 12, true);
        for (Method m : type.getDeclaredMethods()) {
            boolean hidden = Modifier.isPrivate(m.getModifiers());
            check.due(m.getName() + " has a name of its own", hidden && publicNames.contains(m.getName()), false);
            check.due(m.getName() + " has few parameters", m.getParameterCount() <= 7, true);
        }
        for (Class<?> c : inside) {
            check.due(c.getName() + " is static", Modifier.isStatic(c.getModifiers()), true);
            int fields = 0;
            for (Field f : c.getDeclaredFields()) {
                boolean constant = Modifier.isStatic(f.getModifiers());
                fields += constant ? 0 : 1;
                check.due(f.getName() + " is final", constant && !Modifier.isFinal(f.getModifiers()), false);
            }
            check.due(c.getName() + " has few fields", fields <= 20, true);
            for (Method m : c.getDeclaredMethods()) {
                check.due(m.getName() + " has a name of its own", publicNames.contains(m.getName()), false);
                check.due(m.getName() + " has few parameters", m.getParameterCount() <= 7, true);
            }
        }
    }

    private static void source(String source) {
        String code = source.replaceAll("(?s)/\\*.*?\\*/", "").replaceAll("//[^\n]*", "");
        String[] forbidden = {"->", "::", "catch", "try {", "finally", "synchronized", "assert", "instanceof", "hashCode",
            "toString", "equals(", "Exact", "Math.random", "System.out", "System.nano", "System.current", "import java.io",
            "package ", " == \"", "double", "static {"};
        for (String word : forbidden) {
            check.due("the source has " + word, code.contains(word), false);
        }
        Matcher imports = Pattern.compile("import ([\\w.]+);").matcher(code);
        while (imports.find()) {
            check.due("an import", imports.group(1), "java.util.Arrays");
        }
        Matcher thrown = Pattern.compile("throw ([^;]*);").matcher(code);
        while (thrown.find()) {
            check.due("a throw: " + thrown.group(1), thrown.group(1).matches(
                    "new (IllegalState|IllegalArgument|IndexOutOfBounds)Exception\\(\"[^\"]*\"\\)"), true);
        }
        check.due("ASCII", code.chars().allMatch(c -> c < 128), true);
        longMethods(source);
    }

    private static void longMethods(String source) {
        int start = -1;
        String[] lines = source.split("\n");
        for (int i = 0; i < lines.length; i++) {
            if (lines[i].matches(" {4,8}(private |public |static |void |int |boolean |long ).*\\{")
                    && lines[i].contains("(")) {
                start = i;
            } else if (lines[i].matches(" {4,8}\\}") && start >= 0) {
                check.due("a short method: " + lines[start].trim(), i - start <= 60, true);
                start = -1;
            }
        }
    }
}
