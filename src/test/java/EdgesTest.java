import java.io.IOException;
import java.lang.reflect.Method;
import java.nio.file.Files;
import java.nio.file.Path;
import java.util.regex.Matcher;
import java.util.regex.Pattern;

/** The table of the document's sentences names tests that are there, at least one in each row. */
public final class EdgesTest {
    private static final Path TABLE = Path.of("src/test/EDGES.md");
    private static final Pattern TEST = Pattern.compile("`(\\w+Test)\\.(\\w+)`");

    public static void main(String[] args) throws IOException {
        Check check = new Check("EdgesTest");
        for (String line : Files.readAllLines(TABLE)) {
            if (line.startsWith("|") && !line.contains("---") && !line.endsWith("Tests |")) {
                row(check, line);
            }
        }
        check.end();
    }

    private static void row(Check check, String line) {
        Matcher test = TEST.matcher(line);
        int named = 0;
        while (test.find()) {
            named++;
            boolean there = isThere(test.group(1), test.group(2));
            check.same("the test " + test.group() + " is there", there ? 1 : 0, 1);
        }
        check.same("a test is named in: " + line, named > 0 ? 1 : 0, 1);
    }

    private static boolean isThere(String className, String method) {
        try {
            for (Method one : Class.forName(className).getDeclaredMethods()) {
                if (one.getName().equals(method)) {
                    return true;
                }
            }
            return false;
        } catch (ClassNotFoundException e) {
            return false;
        }
    }
}
