import java.io.IOException;
import java.io.UncheckedIOException;
import java.nio.file.Files;
import java.nio.file.Path;

/** The document that the tests quote. */
final class Document {
    private static final Path PLACE = Path.of("../shared/DOC.md");
    private static final String TEXT = read();

    static final int PROMISES = 59;

    private Document() {
    }

    static String text() {
        return TEXT;
    }

    /** What stands ahead of the promises. */
    static String terms() {
        return between("# TrailerYards", "\n## Promise 1:");
    }

    static String promise(int number) {
        String behind = number == PROMISES ? "\n## Not promised" : "\n## Promise " + (number + 1) + ":";
        return between("\n## Promise " + number + ":", behind);
    }

    private static String between(String from, String to) {
        int start = TEXT.indexOf(from);
        int end = TEXT.indexOf(to);
        return start < 0 || end < start ? "" : TEXT.substring(start, end);
    }

    private static String read() {
        try {
            return Files.readString(PLACE);
        } catch (IOException e) {
            throw new UncheckedIOException(e);
        }
    }
}
