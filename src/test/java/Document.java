import java.util.ArrayList;
import java.util.HashMap;
import java.util.List;
import java.util.Map;

/** ../shared/DOC.md by its sections: "Terms", and one for each promise. */
final class Document {
    static final int PROMISES = 64;
    private final Map<String, List<String>> sections = new HashMap<>();

    Document() {
        List<String> section = new ArrayList<>();
        for (String line : Project.read(Project.DOCUMENT).split("\\R")) {
            if (line.startsWith("## ")) {
                section = new ArrayList<>();
                sections.put(line.substring(3).replaceAll(":.*", ""), section);
            } else if (!line.isBlank()) {
                section.add(plain(line));
            }
        }
    }

    /** A text without the marks of code, and with single spaces. */
    static String plain(String text) {
        return text.replace("`", "").replaceAll("\\s+", " ").trim();
    }

    List<String> linesOf(String section) {
        return sections.getOrDefault(section, List.of());
    }

    /** Tells whether the sentence, or the part of one, stands in the promise, or in the terms that all promises share. */
    boolean tells(int promise, String sentence) {
        for (String section : new String[] {"Promise " + promise, "Terms", "What it is"}) {
            if (linesOf(section).stream().anyMatch(line -> line.contains(sentence))) {
                return promise >= 1 && promise <= PROMISES;
            }
        }
        return false;
    }
}
