import java.io.IOException;
import java.nio.file.Files;
import java.nio.file.Path;
import java.util.ArrayList;
import java.util.List;
import java.util.regex.Matcher;
import java.util.regex.Pattern;

/** README.md shows calls on one object, one behind the other, with what each answers: they must answer so. */
public final class ReadmeTest {
    private static final Path README = Path.of("README.md");
    private static final Pattern SHOWN =
        Pattern.compile("\\s*(?:System\\.out\\.println\\()?x\\.(\\w+\\([^;)]*\\))\\)?; *// (-?\\d+|[A-Z]+)(:.*)?");
    private static final Pattern SIGN = Pattern.compile("'(.)'");
    private static final String[] TOLD_BY = {"asked", "pence", "upper", "lower", "finding", "findings"};
    private static final String[] REFUSED = {"BAD", "STATE", "FINDING"};
    private static final int LEAST_SHOWN = 30;

    public static void main(String[] args) throws IOException {
        List<String[]> shown = new ArrayList<>();
        for (String line : codeLines()) {
            Matcher m = SHOWN.matcher(line);
            if (m.matches()) {
                shown.add(new String[] {m.group(1), m.group(2)});
            } else {
                Check.holds("shows what it answers: " + line, !line.contains("//"));
            }
        }
        Check.holds("as many calls as are shown: " + shown.size(), shown.size() >= LEAST_SHOWN);
        answerAsShown(shown);
        tellAndRefuse(shown);
        Check.end();
    }

    private static List<String> codeLines() throws IOException {
        List<String> lines = new ArrayList<>();
        boolean isCode = false;
        for (String line : Files.readAllLines(README)) {
            if (line.startsWith("```")) {
                isCode = line.equals("```java");
            } else if (isCode) {
                lines.add(line);
            }
        }
        return lines;
    }

    private static void answerAsShown(List<String[]> shown) {
        Calls calls = new Calls(TrailerYards.class);
        TrailerYards x = new TrailerYards();
        for (String[] call : shown) {
            Check.due("README: " + call[0], calls.answer(x, withNumbers(call[0])), answer(call[1]));
        }
    }

    /** It is to show how refused calls and what was told are read. */
    private static void tellAndRefuse(List<String[]> shown) {
        for (String name : TOLD_BY) {
            Check.holds("shows " + name, shown.stream().anyMatch(call -> call[0].startsWith(name + "(")));
        }
        for (String name : REFUSED) {
            Check.holds("shows " + name, shown.stream().anyMatch(call -> call[1].equals(name)));
        }
    }

    private static String withNumbers(String call) {
        return SIGN.matcher(call).replaceAll(sign -> String.valueOf((int) sign.group(1).charAt(0)));
    }

    private static long answer(String word) {
        switch (word) {
            case "BAD":
                return TrailerYards.BAD;
            case "FULL":
                return TrailerYards.FULL;
            case "FINDING":
                return TrailerYards.FINDING;
            case "STATE":
                return TrailerYards.STATE;
            case "NONE":
                return TrailerYards.NONE;
            default:
                return Long.parseLong(word);
        }
    }
}
