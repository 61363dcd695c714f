import java.io.IOException;
import java.nio.file.Files;
import java.nio.file.Path;
import java.util.ArrayList;
import java.util.LinkedHashMap;
import java.util.List;
import java.util.Map;
import java.util.Set;

/** The sentences of ../shared/DOC.md that promise something, and the tests that quote them. */
final class DocumentSentences {
    private static final Path DOCUMENT = Path.of("../shared/DOC.md");

    /** Sentences that name no boundary of their own: they lead over to others, or give them names. */
    private static final Set<String> WITHOUT_BOUNDARY = Set.of(
            "The class tells moves, guarded squares (in two ways), what exchanges on a square are worth, "
                    + "stalled sides, repeated boards, and keeps accounts of worths.",
            "BOARD, PIECES", "PLAY", "EXCHANGES", "TEXT", "HISTORY", "EXCEPTIONS",
            "The kinds of steps are");

    private DocumentSentences() {
    }

    static void check() throws IOException {
        Map<String, List<String>> sections = sections();
        Check.same("the document's sections", sections.size(), 1 + 36);
        for (String heading : sections.keySet()) {
            checkSection(heading, sections.get(heading));
        }
    }

    private static void checkSection(String heading, List<String> sentences) {
        List<String> quotes = Edges.quotesIn(heading);
        String whole = String.join(" ", sentences);
        for (String quote : quotes) {
            Check.same(heading + " says \"" + quote + "\"", whole.contains(quote), true);
        }
        for (String sentence : sentences) {
            boolean tested = quotes.stream().anyMatch(q -> sentence.contains(q) || q.contains(sentence));
            Check.same(heading + ": a test quotes \"" + sentence + "\"",
                    tested || WITHOUT_BOUNDARY.contains(sentence), true);
        }
    }

    /** The sentences of the terms and of each promise, by "Terms" or "Promise 1" to "Promise 36". */
    private static Map<String, List<String>> sections() throws IOException {
        Map<String, List<String>> sections = new LinkedHashMap<>();
        String heading = "";
        for (String line : Files.readAllLines(DOCUMENT)) {
            if (line.startsWith("## ")) {
                heading = line.substring(3).replaceAll(":.*", "");
            } else if (heading.equals("Terms") || heading.startsWith("Promise ")) {
                sections.computeIfAbsent(heading, h -> new ArrayList<>()).addAll(sentencesOf(line));
            }
        }
        return sections;
    }

    private static List<String> sentencesOf(String line) {
        List<String> sentences = new ArrayList<>();
        if (line.isBlank() || line.startsWith("Ahead of the calls ")) {
            return sentences;
        }
        // A promise's first line begins with the method's head, which FaceTest compares.
        String words = line.replaceAll("^`[^`]*`: ", "");
        for (String sentence : words.split("(?<=\\.|\\.\\)) (?=[A-Z(])")) {
            sentences.add(sentence);
        }
        return sentences;
    }
}
