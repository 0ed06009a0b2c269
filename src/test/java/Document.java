import java.io.IOException;
import java.io.UncheckedIOException;
import java.nio.file.Files;
import java.nio.file.Path;

/** DOC.md, gone through from its first line: what is quoted must stand there next, so that no sentence is left out. */
final class Document {
    private static final Path PLACE = Path.of("../shared/DOC.md");
    private static final int SHOWN = 100;

    private final Due due;
    private final Script script;
    private final String text;
    private int at;

    Document(Due due) {
        this.due = due;
        this.script = new Script(due);
        this.text = plain(read());
    }

    private static String read() {
        try {
            return Files.readString(PLACE);
        } catch (IOException e) {
            throw new UncheckedIOException(e);
        }
    }

    /** The next words, and cases that are not as due if these words are broken; each case has a new object. */
    void says(String words, String... cases) {
        pass(words);
        for (String steps : cases) {
            script.edge(words, steps);
        }
    }

    /** The next words say nothing that a call answers or changes. */
    void names(String words) {
        pass(words);
    }

    void end() {
        due.about("the end of the document");
        due.holds("nothing is left: '" + shown() + "'", at >= text.length());
    }

    private void pass(String words) {
        String next = plain(words);
        boolean there = text.startsWith(next, at);
        due.about(words);
        due.holds("this stands next in the document, which has '" + shown() + "'", there);
        at = endOf(next);
        while (at < text.length() && text.charAt(at) == ' ') {
            at++;
        }
    }

    /** Words that stand elsewhere further on are gone to, so that one that was left out is told once. */
    private int endOf(String words) {
        int there = text.indexOf(words, at);
        return there >= 0 ? there + words.length() : at;
    }

    private String shown() {
        return text.substring(at, Math.min(text.length(), at + SHOWN));
    }

    private static String plain(String words) {
        return words.replaceAll("\\s+", " ").strip();
    }
}
