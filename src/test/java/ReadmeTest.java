import java.io.IOException;
import java.nio.file.Files;
import java.nio.file.Path;
import java.util.regex.Matcher;
import java.util.regex.Pattern;

/**
 * README.md tells how to use the class, and each call there answers as it says; it tells of each
 * section and promise which tests have it, and names no test in vain.
 */
public final class ReadmeTest {
    private static final Pattern TEST = Pattern.compile("(\\w+Test)\\.(\\w+)");
    private static final Pattern EXAMPLE = Pattern.compile("```java\n(.*?)```", Pattern.DOTALL);
    private static final Pattern CALL = Pattern.compile(
            "radio\\.(\\w+)\\((.*?)\\); +// (-?\\d+|\\w+Exception)(:.*)?");
    private static final String[] CHAPTERS = {"How to use it", "The text format",
        "The order of calls", "What a refused call does", "How to run its tests"};

    public static void main(String[] args) throws IOException {
        String readme = Files.readString(Path.of("README.md"));
        String document = Files.readString(Path.of("../shared/DOC.md"));
        Matcher promise = Pattern.compile("## Promise (\\d+): (.+)").matcher(document);
        int promises = 0;
        while (promise.find()) {
            promises++;
            row(readme, promise.group(1) + " " + promise.group(2));
        }
        if (promises != 54) {
            Check.tell("the document has " + promises + " promises, not 54");
        }
        for (int section = 1; section <= 7; section++) {
            row(readme, "Section " + section);
        }
        testsThatAreNamed(readme);
        chapters(readme, document);
        examples(readme);
        Check.end();
    }

    /** What README.md is to tell; the grammar there is that of the document. */
    private static void chapters(String readme, String document) {
        for (String chapter : CHAPTERS) {
            if (!readme.matches("(?s).*\\n##+ " + chapter + "\\n.*")) {
                Check.tell("README.md has no chapter " + chapter);
            }
        }
        Matcher rule = Pattern.compile("^(text|line) = .*$", Pattern.MULTILINE).matcher(document);
        for (int rules = 0; rules < 2; rules++) {
            if (!rule.find() || !readme.contains("\n" + rule.group() + "\n")) {
                Check.tell("README.md has another grammar than the document");
            }
        }
    }

    private static void examples(String readme) {
        Matcher example = EXAMPLE.matcher(readme);
        int examples = 0;
        while (example.find()) {
            examples++;
            example("README.md, example " + examples, example.group(1).strip().split("\n"));
        }
        if (examples != 3) {
            Check.tell("README.md has " + examples + " examples, not 3");
        }
    }

    /** A new object, then calls with their answers; other comments stand in lines of their own. */
    private static void example(String title, String[] lines) {
        Check x = new Check(title);
        if (!lines[0].equals("BookmobileRadio radio = new BookmobileRadio();")) {
            Check.tell(title + " begins with " + lines[0]);
        }
        for (int i = 1; i < lines.length; i++) {
            Matcher call = CALL.matcher(lines[i]);
            if (call.matches()) {
                x.due(call.group(3), call.group(1), numbers(call.group(2)));
            } else if (!lines[i].startsWith("// ")) {
                Check.tell(title + ": no call with its answer: " + lines[i]);
            }
        }
    }

    private static int[] numbers(String arguments) {
        return Pattern.compile(",").splitAsStream(arguments).map(String::strip)
                .filter(word -> !word.isEmpty()).mapToInt(Integer::decode).toArray();
    }

    private static void row(String readme, String name) {
        Pattern row = Pattern.compile("^\\| " + Pattern.quote(name) + " \\|[^|]+\\|([^|]+)\\|$",
                Pattern.MULTILINE);
        Matcher matcher = row.matcher(readme);
        if (!matcher.find() || !TEST.matcher(matcher.group(1)).find()) {
            Check.tell("README.md names no test of " + name);
        }
    }

    private static void testsThatAreNamed(String readme) throws IOException {
        Matcher test = TEST.matcher(readme);
        while (test.find()) {
            Path file = Path.of("src/test/java/" + test.group(1) + ".java");
            if (!Files.exists(file)
                    || !Files.readString(file).matches("(?s).*\\b" + test.group(2) + "\\(.*")) {
                Check.tell("README.md names " + test.group() + ", which there is not");
            }
        }
    }
}
