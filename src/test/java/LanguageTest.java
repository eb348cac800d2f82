import java.io.File;
import java.io.PrintWriter;
import java.io.StringWriter;
import java.util.ArrayList;
import java.util.List;
import java.util.Map;
import java.util.Optional;
import java.util.Set;
import java.util.TreeMap;
import java.util.TreeSet;
import java.util.regex.Matcher;
import java.util.regex.Pattern;
import java.util.spi.ToolProvider;

/** The rules 4, 8 and 11 of LANGUAGE.md, looked up in the compiled class: what it calls, how deep, and what calls itself. */
public final class LanguageTest {
    private static final Set<String> LIBRARY = Set.of("java/lang/Object.<init>", "java/lang/Math.max",
            "java/lang/Math.min", "java/lang/String.charAt", "java/lang/String.indexOf", "java/lang/String.length",
            "java/lang/System.arraycopy", "java/util/Arrays.fill", "java/lang/IllegalArgumentException.<init>",
            "java/lang/IllegalStateException.<init>", "java/lang/IndexOutOfBoundsException.<init>");
    private static final Set<String> RECURSIVE = Set.of("BaggageLoop$Parser.readTest", "BaggageLoop$Parser.readUnit");
    private static final int DEEPEST = 8;

    private static final Check check = new Check();
    private static final Map<String, Set<String>> calls = new TreeMap<>();

    public static void main(String[] args) {
        Optional<ToolProvider> javap = ToolProvider.findFirst("javap");
        if (javap.isEmpty()) {
            System.out.println("this Java has no javap: nothing was looked up");
            return;
        }
        readCalls(disassembled(javap.get()));
        check.due("methods were found", calls.size() > 150, true);
        library();
        recursion();
        for (String method : calls.keySet()) {
            int depth = depth(method, new ArrayList<>());
            check.due("the calls of " + method + " are at most eight deep: " + depth, depth <= DEEPEST, true);
        }
        check.end();
    }

    private static String disassembled(ToolProvider javap) {
        List<String> arguments = new ArrayList<>(List.of("-c", "-p"));
        for (File f : new File(System.getProperty("java.class.path")).listFiles()) {
            if (f.getName().matches("BaggageLoop(\\$.*)?\\.class")) {
                arguments.add(f.getPath());
            }
        }
        StringWriter out = new StringWriter();
        javap.run(new PrintWriter(out), new PrintWriter(out), arguments.toArray(new String[0]));
        return out.toString();
    }

    private static void readCalls(String code) {
        Pattern type = Pattern.compile("^(?:public )?(?:final )?class (\\S+) \\{");
        Pattern method = Pattern.compile("^  (?:[\\w$\\[\\].]+ )*([\\w$]+)\\(.*\\).*;$");
        Pattern call = Pattern.compile("^ +\\d+: invoke.*// (?:Interface)?Method (\\S+):");
        String inType = "";
        String inMethod = "";
        for (String line : code.split("\n")) {
            Matcher m = type.matcher(line);
            if (m.find()) {
                inType = m.group(1);
            }
            m = method.matcher(line);
            if (m.find()) {
                inMethod = inType + "." + (inType.equals(m.group(1)) ? "<init>" : m.group(1));
                calls.computeIfAbsent(inMethod, k -> new TreeSet<>());
            }
            m = call.matcher(line);
            if (m.find()) {
                String name = m.group(1).replace("\"", "");
                calls.get(inMethod).add(name.contains(".") ? name : inType + "." + name);
            } else {
                check.due("no call of another kind: " + line.trim(), line.contains(": invoke"), false);
            }
        }
    }

    private static boolean isOwn(String method) {
        return method.startsWith("BaggageLoop");
    }

    private static void library() {
        for (Map.Entry<String, Set<String>> entry : calls.entrySet()) {
            for (String called : entry.getValue()) {
                boolean known = isOwn(called) ? calls.containsKey(called) : LIBRARY.contains(called);
                check.due(entry.getKey() + " may call " + called, known, true);
            }
        }
    }

    private static void recursion() {
        for (String method : calls.keySet()) {
            boolean recursive = reaches(method, method, new TreeSet<>());
            check.due(method + " comes back to itself", recursive, RECURSIVE.contains(method));
        }
    }

    private static boolean reaches(String from, String to, Set<String> seen) {
        for (String called : calls.getOrDefault(from, Set.of())) {
            if (called.equals(to) || seen.add(called) && reaches(called, to, seen)) {
                return true;
            }
        }
        return false;
    }

    /** The own methods that stand open at once, each method of a recursion counted once. */
    private static int depth(String method, List<String> open) {
        open.add(method);
        int deepest = 0;
        for (String called : calls.get(method)) {
            if (isOwn(called) && !open.contains(called)) {
                deepest = Math.max(deepest, depth(called, open));
            }
        }
        open.remove(open.size() - 1);
        return deepest + 1;
    }
}
