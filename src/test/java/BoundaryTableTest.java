import java.io.IOException;
import java.nio.file.Files;
import java.nio.file.Path;
import java.util.regex.Matcher;
import java.util.regex.Pattern;

/** Whether each test method that BOUNDARIES.md names is there, and is run by its test's main method. */
public final class BoundaryTableTest {
    private static final Pattern NAMED = Pattern.compile("`(\\w+Test)\\.(\\w+)`");

    public static void main(String[] args) throws IOException {
        Matcher named = NAMED.matcher(Files.readString(Path.of("BOUNDARIES.md")));
        int found = 0;
        while (named.find()) {
            look(named.group(1), named.group(2));
            found++;
        }
        Check.due("methods are named", true, found > 100);
        Check.end();
    }

    private static void look(String test, String method) throws IOException {
        Path file = Path.of("src/test/java", test + ".java");
        String source = Files.exists(file) ? Files.readString(file) : "";
        String name = test + "." + method;
        Check.due(name + " is there", true, source.contains("private static void " + method + "("));
        Check.due(name + " is run", true, source.matches("(?s).* main\\(.*\\b" + method + "\\(.*Check\\.end\\(\\).*"));
    }
}
