import java.io.IOException;
import java.util.ArrayList;
import java.util.LinkedHashMap;
import java.util.List;
import java.util.Map;
import java.util.Set;

/**
 * Holds the program to the document sentence by sentence: every check names the section and the sentence that
 * it is for, the document must have that sentence, and no sentence of the document may be left without a check.
 */
final class Sentences {
    /** Sections and clauses that no answer could break; the public face is held by FaceTest. */
    private static final Set<String> LEFT_OUT = Set.of("The public face", "Not promised",
            "what later calls answer is free.");

    private final Check check = new Check("SentencesTest");
    private final Document document;
    private final Map<String, List<String>> quoted = new LinkedHashMap<>();
    private String section = "";
    private String sentence = "";
    private int checks;

    Sentences() throws IOException {
        document = new Document();
    }

    /** The checks behind this call are for a sentence, or a part of it, word by word. */
    void says(String itsSection, String itsSentence) {
        endSentence();
        section = itsSection;
        sentence = itsSentence;
        checks = 0;
        quoted.computeIfAbsent(section, name -> new ArrayList<>()).add(sentence);
        check.due(section + " has the sentence \"" + sentence + "\"", 1,
                () -> Check.bit(document.has(section, sentence)));
    }

    private void endSentence() {
        if (checks == 0 && !sentence.isEmpty()) {
            check.due(section + ", \"" + sentence + "\" has no check", 0, () -> 1);
        }
    }

    private String told(String call) {
        checks++;
        return section + ", \"" + sentence + "\": " + call;
    }

    void due(String call, long want, Check.Call made) {
        check.due(told(call), want, made);
    }

    void holds(String call, boolean held) {
        check.due(told(call), 1, () -> Check.bit(held));
    }

    void noElement(String call, Check.Call made) {
        due(call, Check.NO_ELEMENT, made);
    }

    void illegal(String call, Check.Call made) {
        due(call, Check.ILLEGAL, made);
    }

    void text(String call, String want, String got) {
        check.dueText(told(call), want, got);
    }

    /** A text of the input, its error code (0 without one) and the position of the error. */
    void load(String text, int code, int position) {
        MarkStacks marks = new MarkStacks();
        long got = Check.load(marks, text);
        due("load of " + text, code == 0 ? Math.max(0, got) : -10 - code, () -> got);
        due("the position of the error of " + text, position, marks::errorPosition);
    }

    /** The wrong token stands behind the first part of the text. */
    void wrong(int code, String ahead, String rest) {
        load(ahead + rest, code, ahead.length());
    }

    void right(String text) {
        load(text, 0, -1);
    }

    void end() {
        endSentence();
        for (Map.Entry<String, List<String>> entry : document.sections().entrySet()) {
            if (!LEFT_OUT.contains(entry.getKey())) {
                for (String clause : entry.getValue()) {
                    endClause(entry.getKey(), clause);
                }
            }
        }
        check.end();
    }

    private void endClause(String itsSection, String clause) {
        boolean found = LEFT_OUT.contains(clause);
        for (String quote : quoted.getOrDefault(itsSection, List.of())) {
            found |= clause.contains(quote) || quote.contains(clause);
        }
        boolean has = found;
        check.due(itsSection + ": a check for \"" + clause + "\"", 1, () -> Check.bit(has));
    }
}
