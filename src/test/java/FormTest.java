import java.io.IOException;
import java.lang.reflect.Field;
import java.lang.reflect.Method;
import java.lang.reflect.Modifier;
import java.nio.file.Files;
import java.nio.file.Path;
import java.util.ArrayList;
import java.util.List;
import java.util.Set;
import java.util.regex.Matcher;
import java.util.regex.Pattern;

/** The rules of ../shared/LANGUAGE.md that can be looked up in the file and in its classes. */
public final class FormTest {
    private static final Path FILE = Path.of("src/main/java/PromiseLoop.java");
    private static final int MOST_CLASSES = 12;
    private static final int MOST_FIELDS = 20;
    private static final int MOST_PARAMETERS = 7;
    private static final int MOST_LINES = 60;

    private static final List<String> FORBIDDEN = List.of("\\bpackage\\b", "\\bimport\\b", "->",
            "::", "\\bfinally\\b", "\\bsynchronized\\b", "\\bassert\\b", "\\bstatic\\s*\\{",
            "\\bcatch\\b", "\\bthis\\s*[,)]", "\\bequals\\b", "\\bhashCode\\b", "\\btoString\\b",
            "\\bdouble\\b", "\\bfloat\\b", "\\bSystem\\b", "\\bThread\\b", "\\bjava\\b",
            "\\bprotected\\b", "\\bvar\\b");
    private static final Pattern THROW = Pattern.compile("\\bthrow\\b[^;]*;");
    private static final Pattern ALLOWED_THROW = Pattern.compile("throw new (IllegalStateException"
            + "|IllegalArgumentException|IndexOutOfBoundsException)\\(\"\"\\);");
    private static final Set<Class<?>> CONSTANTS =
            Set.of(int.class, long.class, boolean.class, char.class, String.class);

    public static void main(String[] args) throws IOException {
        Check check = new Check("FormTest");
        String text = withoutCommentsAndTexts(Files.readString(FILE));
        words(check, text);
        throwsAreAllowed(check, text);
        lengths(check, text);
        List<Class<?>> classes = new ArrayList<>(List.of(PromiseLoop.class.getDeclaredClasses()));
        for (Class<?> one : classes) {
            check.same(one + " is static", Modifier.isStatic(one.getModifiers()) ? 1 : 0, 1);
            check.same(one + " is seen", Modifier.isPublic(one.getModifiers()) ? 1 : 0, 0);
        }
        classes.add(PromiseLoop.class);
        check.same("few classes", classes.size() <= MOST_CLASSES ? 1 : 0, 1);
        for (Class<?> one : classes) {
            fields(check, one);
            parameters(check, one);
        }
        check.end();
    }

    private static String withoutCommentsAndTexts(String text) {
        return text.replaceAll("(?s)/\\*.*?\\*/", "").replaceAll("//[^\n]*", "")
                .replaceAll("\"[^\"\n]*\"", "\"\"");
    }

    private static void words(Check check, String text) {
        for (String word : FORBIDDEN) {
            check.same("there is " + word, Pattern.compile(word).matcher(text).find() ? 1 : 0, 0);
        }
    }

    private static void throwsAreAllowed(Check check, String text) {
        Matcher one = THROW.matcher(text);
        while (one.find()) {
            boolean allowed = ALLOWED_THROW.matcher(one.group()).matches();
            check.same("allowed: " + one.group(), allowed ? 1 : 0, 1);
        }
    }

    /** A method ends with the first brace that stands as far to the right as it begins. */
    private static void lengths(Check check, String text) {
        String[] lines = text.split("\n");
        Pattern start = Pattern.compile("^( {4}| {8})[a-zA-Z][\\w\\[\\], ]*\\([^;]*$");
        for (int i = 0; i < lines.length; i++) {
            Matcher begins = start.matcher(lines[i]);
            if (begins.find() && !lines[i].trim().matches("(if|for|while|switch|return)\\b.*")) {
                int end = i;
                while (end < lines.length && !lines[end].equals(begins.group(1) + "}")) {
                    end++;
                }
                check.same("short: " + lines[i].trim(), end - i < MOST_LINES ? 1 : 0, 1);
            }
        }
    }

    private static void fields(Check check, Class<?> one) {
        int fields = 0;
        for (Field field : one.getDeclaredFields()) {
            if (Modifier.isStatic(field.getModifiers())) {
                boolean constant = Modifier.isFinal(field.getModifiers())
                        && CONSTANTS.contains(field.getType());
                check.same("a constant: " + field, constant ? 1 : 0, 1);
            } else {
                fields++;
            }
        }
        check.same("few fields in " + one, fields <= MOST_FIELDS ? 1 : 0, 1);
    }

    private static void parameters(Check check, Class<?> one) {
        for (Method method : one.getDeclaredMethods()) {
            boolean few = method.getParameterCount() <= MOST_PARAMETERS;
            check.same("few parameters: " + method, few ? 1 : 0, 1);
        }
    }
}
