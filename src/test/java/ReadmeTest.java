import java.io.IOException;
import java.nio.file.Files;
import java.nio.file.Path;
import java.util.regex.Matcher;
import java.util.regex.Pattern;

/** README.md tells of each section and promise which tests have it, and names no test in vain. */
public final class ReadmeTest {
    private static final Pattern TEST = Pattern.compile("(\\w+Test)\\.(\\w+)");

    public static void main(String[] args) throws IOException {
        String readme = Files.readString(Path.of("README.md"));
        String document = Files.readString(Path.of("../shared/DOC.md"));
        Matcher promise = Pattern.compile("## Promise (\\d+): (.+)").matcher(document);
        int promises = 0;
        while (promise.find()) {
            promises++;
            row(readme, promise.group(1) + " " + promise.group(2));
        }
        if (promises != 54) {
            Check.tell("the document has " + promises + " promises, not 54");
        }
        for (int section = 1; section <= 7; section++) {
            row(readme, "Section " + section);
        }
        testsThatAreNamed(readme);
        Check.end();
    }

    private static void row(String readme, String name) {
        Pattern row = Pattern.compile("^\\| " + Pattern.quote(name) + " \\|[^|]+\\|([^|]+)\\|$",
                Pattern.MULTILINE);
        Matcher matcher = row.matcher(readme);
        if (!matcher.find() || !TEST.matcher(matcher.group(1)).find()) {
            Check.tell("README.md names no test of " + name);
        }
    }

    private static void testsThatAreNamed(String readme) throws IOException {
        Matcher test = TEST.matcher(readme);
        while (test.find()) {
            Path file = Path.of("src/test/java/" + test.group(1) + ".java");
            if (!Files.exists(file)
                    || !Files.readString(file).matches("(?s).*\\b" + test.group(2) + "\\(.*")) {
                Check.tell("README.md names " + test.group() + ", which there is not");
            }
        }
    }
}
