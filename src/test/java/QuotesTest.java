import java.io.IOException;
import java.nio.file.DirectoryStream;
import java.nio.file.Files;
import java.nio.file.Path;
import java.util.ArrayList;
import java.util.List;
import java.util.regex.Matcher;
import java.util.regex.Pattern;

/**
 * The sentences that the tests of edges name stand in the document word for word (what is in [ ] is the test's own,
 * and .. leaves words out), and there is one of each promise; so it shows when the document changes.
 */
public final class QuotesTest {
    private static final Check CHECK = new Check();
    private static final Path DOCUMENT = Path.of("../shared/DOC.md");
    private static final int PROMISES = 37;

    public static void main(String[] args) throws IOException {
        if (!Files.exists(DOCUMENT)) {
            System.out.println("the document is not here: nothing to compare with");
            return;
        }
        String document = inOneLine(Files.readString(DOCUMENT));
        List<String> quotes = quotes();
        CHECK.holds("there are quotes", quotes.size() > 100);
        for (String quote : quotes) {
            CHECK.holds("'" + quote + "' stands in the document", document.contains(quote));
        }
        for (int n = 1; n <= PROMISES; n++) {
            CHECK.holds("promise " + n + " is quoted", isQuoted(promise(document, n), quotes));
        }
        CHECK.end();
    }

    private static String inOneLine(String text) {
        return text.replaceAll("\\s+", " ");
    }

    private static String promise(String document, int n) {
        int from = document.indexOf("## Promise " + n + ":");
        int to = document.indexOf("## ", from + 3);
        return from < 0 || to < 0 ? "" : document.substring(from, to);
    }

    private static boolean isQuoted(String promise, List<String> quotes) {
        return quotes.stream().anyMatch(promise::contains);
    }

    private static List<String> quotes() throws IOException {
        List<String> found = new ArrayList<>();
        try (DirectoryStream<Path> files = Files.newDirectoryStream(Path.of("src/test/java"), "*Test.java")) {
            for (Path file : files) {
                Matcher m = Pattern.compile("\\.says\\(\"([^\"]*)\"\\)").matcher(Files.readString(file));
                while (m.find()) {
                    addParts(m.group(1), found);
                }
            }
        }
        return found;
    }

    private static void addParts(String says, List<String> to) {
        for (String part : says.replaceAll(" ?\\[[^\\]]*\\]", "").split(" \\.\\. ")) {
            if (!part.isBlank()) {
                to.add(part.strip());
            }
        }
    }
}
