import java.io.IOException;
import java.nio.file.Files;
import java.nio.file.Path;
import java.util.List;
import java.util.Set;
import java.util.TreeSet;
import java.util.regex.Matcher;
import java.util.regex.Pattern;
import java.util.stream.Collectors;
import java.util.stream.Stream;

/** Each promise has a test of a boundary case that quotes it, and each test of a boundary case is called. */
public final class SentencesTest {
    private static final Path TESTS = Path.of("src/test/java");
    private static final Pattern QUOTE = Pattern.compile("Run\\.promise\\((\\d+), \"");
    private static final Pattern METHOD = Pattern.compile("private static \\w+ (\\w+)\\(");

    public static void main(String[] args) throws IOException {
        List<Path> files;
        try (Stream<Path> all = Files.list(TESTS)) {
            files = all.filter(f -> f.getFileName().toString().startsWith("Bounds")).sorted().collect(Collectors.toList());
        }
        Set<Integer> quoted = new TreeSet<>();
        for (Path file : files) {
            String source = Files.readString(file);
            addQuoted(source, quoted);
            expectCalled(file, source);
        }
        for (int promise = 1; promise <= Document.PROMISES; promise++) {
            Check.holds("promise " + promise + " is quoted", quoted.contains(promise));
        }
        Check.end();
    }

    private static void addQuoted(String source, Set<Integer> quoted) {
        Matcher m = QUOTE.matcher(source);
        while (m.find()) {
            quoted.add(Integer.parseInt(m.group(1)));
        }
    }

    private static void expectCalled(Path file, String source) {
        Matcher m = METHOD.matcher(source);
        while (m.find()) {
            int uses = source.split("\\b" + m.group(1) + "\\(", -1).length - 1;
            Check.holds(file.getFileName() + " calls " + m.group(1), uses > 1);
        }
    }
}
