import java.io.IOException;
import java.nio.file.Files;
import java.nio.file.Path;

/** The sentences under one heading of the document, each crossed out by the test that sees to it. */
final class Sentences {
    private static final Path DOCUMENT = Path.of("../shared/DOC.md");

    private final String heading;
    private String left;

    Sentences(String heading) throws IOException {
        this.heading = heading;
        String text = Files.readString(DOCUMENT);
        int from = text.indexOf("\n## " + heading + "\n");
        Hand.due("the document has the heading " + heading, from >= 0, true);
        String under = from < 0 ? "" : text.substring(from + heading.length() + 5);
        int to = under.indexOf("\n## ");
        left = plain(to < 0 ? under : under.substring(0, to));
    }

    /** Without the marks round a block, without the call that a promise is of, and in one line. */
    private static String plain(String text) {
        return text.replaceAll("```(text)?\n", "").replaceAll("\\s+", " ").trim().replaceFirst("^`[^`]*`: ", "");
    }

    /** The sentence stands in the document, and this test sees whether it holds. */
    void hold(String sentence, Runnable test) {
        crossOut(sentence);
        try {
            test.run();
        } catch (RuntimeException e) {
            Hand.due("the test of: " + sentence, e, "no exception");
        }
    }

    /** There is nothing in it that a call could break. */
    void crossOut(String sentence) {
        int at = left.indexOf(sentence);
        Hand.due(heading + " says: " + sentence, at >= 0, true);
        if (at >= 0) {
            left = left.substring(0, at) + left.substring(at + sentence.length());
        }
    }

    void end() {
        Hand.due(heading + ", sentences without a test:", left.trim(), "");
    }
}
