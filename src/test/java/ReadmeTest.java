import java.io.IOException;
import java.lang.reflect.Method;
import java.lang.reflect.Modifier;
import java.nio.file.DirectoryStream;
import java.nio.file.Files;
import java.nio.file.Path;
import java.util.Map;
import java.util.TreeMap;
import java.util.regex.Matcher;
import java.util.regex.Pattern;

/** README.md tells how to use the class: each answer on it is that of the class, and no call and no test is left out. */
public final class ReadmeTest {
    private static final Check CHECK = new Check();
    private static final Pattern BLOCK = Pattern.compile("(?s)```java\n(.*?)```");
    private static final Pattern TEXT = Pattern.compile("\"([^\"]*)\"\\.toCharArray\\(\\)");
    private static final Pattern CALL = Pattern.compile("^x\\.(\\w+)\\(([-\\d, ]*)\\);\\s+// (-?\\d+)\\b");

    public static void main(String[] args) throws Exception {
        String readme = Files.readString(Path.of("README.md"));
        examples(readme);
        allCalls(readme);
        allTests(readme);
        CHECK.holds("README.md says how the tests are run", readme.contains(".ci/run"));
        CHECK.end();
    }

    private static void examples(String readme) throws Exception {
        Matcher block = BLOCK.matcher(readme);
        int blocks = 0;
        while (block.find()) {
            blocks++;
            example("example " + blocks, block.group(1));
        }
        CHECK.holds("there are examples", blocks > 0);
    }

    private static void example(String name, String code) throws Exception {
        ProphetFines x = new ProphetFines();
        for (String line : code.split("\n")) {
            Matcher text = TEXT.matcher(line);
            Matcher call = CALL.matcher(line);
            if (text.find()) {
                Check.feedAll(x, text.group(1));
            } else if (call.find()) {
                due(name, x, call);
            } else {
                CHECK.holds(name + ": '" + line + "' has no answer of its own",
                        line.matches("\\}|    x\\.feed\\(letter\\);|ProphetFines x = new ProphetFines\\(\\);"));
            }
        }
    }

    private static void due(String name, ProphetFines x, Matcher call) throws Exception {
        String[] written = call.group(2).isBlank() ? new String[0] : call.group(2).split(", ");
        Object[] numbers = new Object[written.length];
        for (int i = 0; i < written.length; i++) {
            numbers[i] = Integer.parseInt(written[i]);
        }
        Method method = face().get(call.group(1));
        CHECK.holds(name + ": there is a call " + call.group(1), method != null);
        if (method != null) {
            long got = ((Number) method.invoke(x, numbers)).longValue();
            CHECK.due(name + ": " + call.group(1) + "(" + call.group(2) + ")", got, Long.parseLong(call.group(3)));
        }
    }

    private static void allCalls(String readme) {
        for (String name : face().keySet()) {
            CHECK.holds(name + "() is shown", readme.contains("x." + name + "("));
        }
    }

    private static Map<String, Method> face() {
        Map<String, Method> face = new TreeMap<>();
        for (Method m : ProphetFines.class.getDeclaredMethods()) {
            if (Modifier.isPublic(m.getModifiers())) {
                face.put(m.getName(), m);
            }
        }
        return face;
    }

    private static void allTests(String readme) throws IOException {
        int tests = 0;
        try (DirectoryStream<Path> files = Files.newDirectoryStream(Path.of("src/test/java"), "*Test.java")) {
            for (Path file : files) {
                tests++;
                String name = file.getFileName().toString().replace(".java", "");
                CHECK.holds(name + " is told", readme.contains("`" + name + "`"));
            }
        }
        Matcher told = Pattern.compile("`\\w+Test`").matcher(readme);
        CHECK.due("tests that are told", told.results().count(), tests);
    }
}
