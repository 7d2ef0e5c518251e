import java.io.IOException;
import java.io.UncheckedIOException;
import java.nio.file.Files;
import java.nio.file.Path;
import java.util.ArrayList;
import java.util.List;
import java.util.Map;
import java.util.TreeMap;
import java.util.regex.Matcher;
import java.util.regex.Pattern;

/**
 * The sentences of ../shared/DOC.md, by the number of the promise that says them; 0 stands for the document's first
 * part. A line of the document that begins with "- ", "Returns" or "Throws" counts as a sentence, too.
 */
final class Document {
    static final int FIRST_PART = 0;
    private static final Path FILE = Path.of("../shared/DOC.md");
    private static final Pattern PROMISE = Pattern.compile("## Promise (\\d+): .*");
    private static final Pattern SIGNATURE = Pattern.compile("`[^`]*`: (.*)");
    private static final Pattern BETWEEN_SENTENCES = Pattern.compile("(?:(?<=\\.)|(?<=\\.\\)))\\s+(?=[A-Z(])");

    private final Map<Integer, List<String>> sentences = new TreeMap<>();

    private Document() {
    }

    static Document read() {
        try {
            Document made = new Document();
            made.take(Files.readAllLines(FILE));
            return made;
        } catch (IOException e) {
            throw new UncheckedIOException(e);
        }
    }

    private void take(List<String> lines) {
        int promise = FIRST_PART;
        boolean inCode = false;
        for (String line : lines) {
            Matcher head = PROMISE.matcher(line);
            if (line.startsWith("```")) {
                inCode = !inCode;
            } else if (head.matches()) {
                promise = Integer.parseInt(head.group(1));
            } else if (line.startsWith("## Not promised")) {
                return;
            } else if (!inCode && !line.isBlank() && !line.startsWith("#")) {
                takeSentences(promise, line);
            }
        }
    }

    private void takeSentences(int promise, String line) {
        Matcher signature = SIGNATURE.matcher(line);
        String text = promise != FIRST_PART && signature.matches() ? signature.group(1) : line;
        sentences.computeIfAbsent(promise, number -> new ArrayList<>())
                .addAll(List.of(BETWEEN_SENTENCES.split(text)));
    }

    Iterable<Integer> promises() {
        return sentences.keySet();
    }

    List<String> sentencesOf(int promise) {
        return sentences.getOrDefault(promise, List.of());
    }
}
