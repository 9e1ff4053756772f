import java.io.IOException;
import java.nio.charset.StandardCharsets;
import java.nio.file.Files;
import java.nio.file.Path;
import java.util.ArrayList;
import java.util.LinkedHashMap;
import java.util.List;
import java.util.Map;

/** The document's sections, each as the list of its clauses: a sentence, or a part of it up to a semicolon. */
final class Document {
    private static final Path PLACE = Path.of("../shared/DOC.md");

    private final Map<String, List<String>> sections = new LinkedHashMap<>();
    private final boolean there = Files.exists(PLACE);

    Document() throws IOException {
        if (there) {
            read();
        } else {
            System.out.println(PLACE + " is not there: the quotes of the tests are not held against it");
        }
    }

    private void read() throws IOException {
        String section = "";
        boolean inBlock = false;
        for (String line : Files.readAllLines(PLACE, StandardCharsets.UTF_8)) {
            if (line.startsWith("```")) {
                inBlock = !inBlock;
            } else if (line.startsWith("#")) {
                section = line.replaceFirst("#+ ", "").replaceFirst(":.*", "");
            } else if (!line.isBlank()) {
                List<String> clauses = sections.computeIfAbsent(section, name -> new ArrayList<>());
                // In a block, a semicolon may be a token of the grammar.
                clauses.addAll(inBlock ? List.of(line.trim()) : List.of(line.split("(?<=[.;]) (?=[A-Za-z(0-9-])")));
            }
        }
    }

    Map<String, List<String>> sections() {
        return sections;
    }

    boolean has(String section, String sentence) {
        return !there || String.join(" ", sections.getOrDefault(section, List.of())).contains(sentence);
    }
}
