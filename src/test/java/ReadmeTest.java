import java.io.IOException;
import java.nio.file.Files;
import java.nio.file.Path;
import java.util.List;
import java.util.regex.Matcher;
import java.util.regex.Pattern;
import java.util.stream.Stream;

/** What README.md says of the class is so: its example answers as told there, and it names every test. */
public final class ReadmeTest {
    private static final Due due = new Due("ReadmeTest");

    public static void main(String[] args) throws IOException {
        String readme = Files.readString(Path.of("README.md"));
        example(readme);
        testsAreNamed(readme);
        due.end();
    }

    private static void example(String readme) {
        Matcher text = Pattern.compile("\"([^\"]+)\"\\.toCharArray").matcher(readme);
        due.is("README.md has a text", text.find() ? 1 : 0, 1);
        HawkAsks x = new HawkAsks();
        Due.tell(x, text.group(1));
        Calls calls = new Calls();
        Matcher call = Pattern.compile("x\\.(\\w+\\([^)]*\\)); +// (-?\\d+): ").matcher(readme);
        int told = 0;
        while (call.find()) {
            told++;
            due.is("README.md: " + call.group(1), calls.call(x, call.group(1)), Long.parseLong(call.group(2)));
        }
        due.is("README.md has calls with answers", told > 4 ? 1 : 0, 1);
    }

    private static void testsAreNamed(String readme) throws IOException {
        List<String> names;
        try (Stream<Path> files = Files.list(Path.of("src/test/java"))) {
            names = files.map(f -> f.getFileName().toString().replace(".java", ""))
                .filter(name -> name.endsWith("Test")).sorted().toList();
        }
        for (String name : names) {
            due.is("README.md names " + name, readme.contains("`" + name + "`") ? 1 : 0, 1);
        }
    }
}
