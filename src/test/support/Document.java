import java.io.IOException;
import java.io.UncheckedIOException;
import java.nio.file.Files;
import java.nio.file.Path;
import java.util.ArrayList;
import java.util.LinkedHashMap;
import java.util.List;
import java.util.Map;
import java.util.regex.Matcher;
import java.util.regex.Pattern;

/**
 * DOC.md by sections ("What it is", "Description", "1" to "7" and "Promise 1" to "Promise 65"), and which of its words
 * tests have quoted.
 */
final class Document {
    private static final Pattern HEADING = Pattern.compile("(?m)^(?:## (Promise \\d+): .*|([1-7])\\. [A-Z].*"
            + "|## (What it is|Description)|## .*)$");

    private final String face;
    private final Map<String, String> sections = new LinkedHashMap<>();
    private final Map<String, boolean[]> quoted = new LinkedHashMap<>();

    Document() {
        String all = read();
        face = all.substring(all.indexOf("```java"), all.indexOf("}\n```"));
        Matcher heading = HEADING.matcher(all);
        String section = null;
        int start = 0;
        while (heading.find()) {
            addSection(section, all.substring(start, heading.start()));
            section = null;
            for (int group = 1; group <= heading.groupCount() && section == null; group++) {
                section = heading.group(group);
            }
            start = heading.end();
        }
    }

    private static String read() {
        try {
            return Files.readString(Path.of("../shared/DOC.md"));
        } catch (IOException e) {
            throw new UncheckedIOException(e);
        }
    }

    /** Signatures, group headings and what only tells how the document goes on are no promises. */
    private void addSection(String section, String text) {
        if (section != null) {
            String plain = text.replaceAll("(?m)^`.*`$", " ").replaceAll("(?m)^----.*$", " ")
                    .replaceAll("The constants:", " ").replaceAll("The constructor and the methods follow.*\\s.*", " ");
            sections.put(section, plain.replaceAll("\\s+", " ").trim());
            quoted.put(section, new boolean[sections.get(section).length()]);
        }
    }

    /** Notes a quotation; tells whether the section has these words, other than those that were quoted before. */
    boolean quote(String section, String words) {
        String text = sections.getOrDefault(section, "");
        boolean[] marks = quoted.get(section);
        for (int at = text.indexOf(words); at >= 0; at = text.indexOf(words, at + 1)) {
            if (!marks[at]) {
                for (int i = at; i < at + words.length(); i++) {
                    marks[i] = true;
                }
                return true;
            }
        }
        return false;
    }

    /** The words of a section that no test has quoted. */
    List<String> unquoted(String section) {
        String text = sections.getOrDefault(section, "there is no section " + section);
        boolean[] marks = quoted.getOrDefault(section, new boolean[text.length()]);
        List<String> left = new ArrayList<>();
        StringBuilder run = new StringBuilder();
        for (int i = 0; i <= text.length(); i++) {
            if (i < text.length() && !marks[i]) {
                run.append(text.charAt(i));
            } else {
                if (!run.toString().isBlank()) {
                    left.add(run.toString().trim());
                }
                run.setLength(0);
            }
        }
        return left;
    }

    /** The exceptions of a method in the order in which the face lists them. */
    List<String> exceptions(String method) {
        Matcher line = Pattern.compile("\\b" + method + "\\([^)]*\\)(?: throws ([^;]*))?;").matcher(face);
        return line.find() && line.group(1) != null ? List.of(line.group(1).split(", ")) : List.of();
    }
}
