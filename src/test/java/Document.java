import java.io.IOException;
import java.io.UncheckedIOException;
import java.nio.file.Files;
import java.nio.file.Path;
import java.util.ArrayList;
import java.util.List;

/**
 * The sentences of some sections of the document. A test says, word for word, which sentence it
 * tests; at the end, a sentence that no test has said is wrong, as is one that does not stand there.
 */
final class Document {
    private static final Path FILE = Path.of("..", "shared", "DOC.md");

    private final Due due;
    private final List<String> sentences = new ArrayList<>();
    private final List<String> untested = new ArrayList<>();

    Document(Due due, String... headings) {
        this.due = due;
        for (String heading : headings) {
            List<String> found = sentencesUnder(heading);
            due.yes("the document has sentences under " + heading, !found.isEmpty());
            sentences.addAll(found);
        }
        untested.addAll(sentences);
    }

    /** The headings of all sections, in the document's order. */
    static List<String> headings() {
        List<String> headings = new ArrayList<>();
        for (String section : sections()) {
            headings.add(headingOf(section));
        }
        return headings;
    }

    /** What stands under a heading; nothing if there is none such. */
    static String textUnder(String heading) {
        for (String section : sections()) {
            if (headingOf(section).equals(heading)) {
                return section.substring(heading.length());
            }
        }
        return "";
    }

    /** What is looked at from now on is due by this sentence; its spaces and line ends are free. */
    void says(String sentence) {
        String plain = oneLine(sentence);
        due.by("");
        due.yes("it stands in the document: " + plain, sentences.contains(plain));
        untested.remove(plain);
        due.by(plain);
    }

    void close() {
        due.by("");
        for (String sentence : untested) {
            due.yes("a test says: " + sentence, false);
        }
        due.close();
    }

    private static List<String> sections() {
        List<String> sections = new ArrayList<>(List.of(text().split("(?m)^## ")));
        sections.remove(0);
        return sections;
    }

    private static String text() {
        try {
            return Files.readString(FILE);
        } catch (IOException e) {
            throw new UncheckedIOException(e);
        }
    }

    private static String headingOf(String section) {
        return section.lines().findFirst().orElse("");
    }

    private static List<String> sentencesUnder(String heading) {
        List<String> found = new ArrayList<>();
        // An example block stands between sentences, as an empty line does.
        String body = textUnder(heading).replaceAll("```(text)?", "\n\n");
        for (String paragraph : body.split("\n\\s*\n")) {
            addSentences(found, oneLine(paragraph));
        }
        return found;
    }

    /** Leaves out the face of a method before its colon, and titles such as 'PACKETS.'. */
    private static void addSentences(List<String> found, String paragraph) {
        String text = paragraph.replaceFirst("^`[^`]*`: ", "");
        // The dots of '0 .. 5' end no sentence; each rule is one, though it begins small.
        for (String sentence : text.split("(?<=[^.\\s]\\.)\\s+(?=[A-Z]|rule \\d:)")) {
            if (!sentence.isEmpty() && !sentence.matches("[A-Z]+\\.")) {
                found.add(sentence);
            }
        }
    }

    private static String oneLine(String text) {
        return text.strip().replaceAll("\\s+", " ");
    }
}
