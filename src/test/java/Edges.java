import java.io.IOException;
import java.nio.file.Files;
import java.nio.file.Path;
import java.util.ArrayList;
import java.util.List;

/**
 * The tests of one part of the document, each named by the part and by the words that it tests. Words
 * that no longer stand in that part make the test fail, so that no test outlives its sentence.
 */
final class Edges {
    private static final Path DOCUMENT = Path.of("../shared/DOC.md");

    private final String part;
    private final List<String> lines = new ArrayList<>();
    private final List<String> tested = new ArrayList<>();

    Edges(String heading) {
        part = heading;
        boolean inside = false;
        for (String line : document()) {
            if (line.startsWith("## ")) {
                inside = line.equals("## " + heading);
            } else if (inside) {
                lines.add(line.strip());
            }
        }
    }

    private static List<String> document() {
        try {
            return Files.readAllLines(DOCUMENT);
        } catch (IOException e) {
            throw new IllegalStateException("the tests are run from the project's directory", e);
        }
    }

    Edges test(String words, Runnable body) {
        Check.name(part + " \"" + words + "\": ");
        Check.due("these words stand there", true, () -> String.join(" ", lines).contains(words));
        int before = Check.checks();
        // A call that throws outside a check must not hide the other tests.
        Check.due("the test runs to its end", "ended", () -> {
            body.run();
            return "ended";
        });
        Check.due("it checks something", true, () -> Check.checks() > before + 1);
        tested.add(words);
        Check.name("");
        return this;
    }

    /** Each case of each refused call that this part names must have had its test. */
    void end() {
        for (String line : lines) {
            if (line.startsWith("Throws ")) {
                Check.due(part + ": cases without a test in: " + line, "", () -> casesWithoutTest(line));
            }
        }
    }

    private String casesWithoutTest(String line) {
        String left = line.substring(line.indexOf(" if ") + 4);
        for (String words : tested) {
            left = left.replace(words, "");
        }
        return left.replace(",", "").replace(" or ", "").strip();
    }
}
