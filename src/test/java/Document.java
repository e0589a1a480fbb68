import java.io.IOException;
import java.nio.file.Files;
import java.nio.file.Path;
import java.util.LinkedHashMap;
import java.util.List;
import java.util.Map;

/** The text of ../shared/DOC.md, by its headings, without its marks. */
final class Document {
    private static final Path FILE = Path.of("../shared/DOC.md");

    private final Map<String, String> sections = new LinkedHashMap<>();

    Document() throws IOException {
        for (String section : Files.readString(FILE).split("(?m)^## ")) {
            int end = section.indexOf('\n');
            sections.put(section.substring(0, end).trim(), plain(section.substring(end)));
        }
    }

    private static String plain(String text) {
        return text.replaceAll("```\\w*", "").replaceAll("`|=====+", "").replace("&gt;", ">")
            .replaceAll("\\s+", " ").trim();
    }

    static boolean isThere() {
        return Files.exists(FILE);
    }

    boolean says(String heading, String quote) {
        return sections.getOrDefault(heading, "").contains(quote);
    }

    /** A full stop ends a sentence; the two of a range, as in 0 .. 8, do not. */
    List<String> sentencesOf(String heading) {
        return List.of(sections.getOrDefault(heading, "").split("(?<=[^.\\s]\\.\\)?)\\s+"));
    }

    /** Terms and the promises: what the class must do. */
    List<String> promisingHeadings() {
        return sections.keySet().stream().filter(h -> h.equals("Terms") || h.startsWith("Promise ")).toList();
    }
}
