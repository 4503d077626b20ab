import java.io.IOException;
import java.nio.charset.StandardCharsets;
import java.nio.file.Files;
import java.nio.file.Path;
import java.util.ArrayList;
import java.util.Arrays;
import java.util.List;
import java.util.Map;
import java.util.TreeMap;

/** The words of the document by sections, and which of them a test has named. Runs from the project's root. */
final class Words {
    private static final Path DOCUMENT = Path.of("../shared/DOC.md");

    private final Map<String, String> sections = new TreeMap<>();
    private final Map<String, boolean[]> named = new TreeMap<>();

    Words() throws IOException {
        if (!isThere()) {
            return;
        }
        String text = Files.readString(DOCUMENT, StandardCharsets.UTF_8);
        for (String part : text.split("(?m)^## ")) {
            int end = part.indexOf('\n');
            if (end > 0) {
                add(part.substring(0, end).replaceAll(":.*", "").trim(), part.substring(end));
            }
        }
    }

    static boolean isThere() {
        return Files.exists(DOCUMENT);
    }

    private void add(String section, String text) {
        String told = text
            .replaceFirst("(?s)Ahead of the calls.*", "")
            .replaceFirst("^\\s*`[^`]*`: ", "")
            .replaceAll("```\\w*|======== \\d", " ")
            .replaceAll("\\s+", " ");
        sections.put(section, told);
        named.put(section, new boolean[told.length()]);
    }

    /** Whether the section has these words, if the document is there; they are named from now on. */
    boolean name(String section, String words) {
        String text = sections.getOrDefault(section, "");
        int from = text.indexOf(words);
        boolean has = from >= 0 || !isThere();
        while (from >= 0) {
            Arrays.fill(named.get(section), from, from + words.length(), true);
            from = text.indexOf(words, from + 1);
        }
        return has;
    }

    /** The words of the terms and of the promises that no test has named. */
    List<String> notNamed() {
        List<String> left = new ArrayList<>();
        for (String section : sections.keySet()) {
            if (section.equals("Terms") || section.startsWith("Promise ")) {
                String words = notNamedOf(section);
                if (words.matches("(?s).*\\w.*")) {
                    left.add(section + ": " + words.trim());
                }
            }
        }
        return left;
    }

    private String notNamedOf(String section) {
        StringBuilder left = new StringBuilder();
        String text = sections.get(section);
        for (int i = 0; i < text.length(); i++) {
            left.append(named.get(section)[i] ? ' ' : text.charAt(i));
        }
        return left.toString().replaceAll("\\s+", " ");
    }

    int promises() {
        int promises = 0;
        for (String section : sections.keySet()) {
            promises += section.startsWith("Promise ") ? 1 : 0;
        }
        return promises;
    }
}
