import java.util.ArrayList;
import java.util.LinkedHashMap;
import java.util.List;
import java.util.Map;

/** DOC.md by its headings, and which of its sentences a test has named so far. */
final class Document {
    /** Headings without their sign, and the signs round the face. */
    private static final List<String> BARE_LINES = List.of("Films, screens", "Jurors, prizes", "Undo, the snapshot",
            "```java", "}", "```");

    private final Map<String, String> sections = new LinkedHashMap<>();
    private final Map<String, List<String>> named = new LinkedHashMap<>();

    Document(String text) {
        String heading = "";
        for (String line : text.split("\n")) {
            if (line.startsWith("#")) {
                heading = line.replaceAll("^#+ *", "");
            } else if (!line.isBlank()) {
                sections.merge(heading, line, (before, more) -> before + "\n" + more);
            }
        }
    }

    /** Notes that a test names these words; false if they do not stand under the heading. */
    boolean name(String heading, String words) {
        named.computeIfAbsent(heading, none -> new ArrayList<>()).add(words);
        return sections.getOrDefault(heading, "").contains(words);
    }

    /** The sentences and their parts between semicolons, from the first line to the last, that no test names. */
    List<String> unnamed() {
        List<String> rest = new ArrayList<>();
        for (Map.Entry<String, String> section : sections.entrySet()) {
            for (String line : section.getValue().split("\n")) {
                addUnnamed(section.getKey(), line.strip(), rest);
            }
        }
        return rest;
    }

    private void addUnnamed(String heading, String line, List<String> rest) {
        if (BARE_LINES.contains(line)) {
            return;
        }
        for (String piece : line.replaceAll("^- ", "").split("(?<=[.;]) ")) {
            String bare = piece.replaceAll("[.;]$", "");
            boolean isNamed = false;
            for (String words : named.getOrDefault(heading, List.of())) {
                isNamed |= words.contains(bare) || bare.contains(words.replaceAll("[.;]$", ""));
            }
            if (!isNamed) {
                rest.add(heading + " | " + bare);
            }
        }
    }
}
