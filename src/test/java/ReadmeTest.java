import java.io.IOException;
import java.lang.reflect.InvocationTargetException;
import java.lang.reflect.Method;
import java.lang.reflect.Modifier;
import java.nio.file.Files;
import java.nio.file.Path;
import java.util.ArrayList;
import java.util.List;
import java.util.Set;
import java.util.TreeSet;
import java.util.regex.Matcher;
import java.util.regex.Pattern;

/** What README.md says of the class holds: the answers of its example, and its tables. */
public final class ReadmeTest {
    private static final Path README = Path.of("README.md");
    private static final String NEW_OBJECT = "PromiseLoop loop = new PromiseLoop();";
    private static final Pattern CALL = Pattern.compile(
            "loop\\.(\\w+)\\(([-\\d, ]*)\\);\\s*// (?:(answers|throws) ([-\\w]+))?.*");
    private static final Pattern METHOD_ROW =
            Pattern.compile("\\| `(\\w+)\\(([\\w, ]*)\\)` \\|[^|]+\\|([^|]*)\\|");
    private static final Pattern CODE_ROW =
            Pattern.compile("\\| (\\d+) [A-Z]+ \\|[^|]+\\| ([^|]+) \\| ([^|]+) \\|");
    private static final Pattern EXCEPTION = Pattern.compile("\\w+Exception");
    private static final int CODES = 16;
    /** Each number at which a range of the tables begins or ends, with its neighbours. */
    private static final int[] EDGES = {Integer.MIN_VALUE, -1000, -999, -998, -2, -1, 0, 1, 2, 3, 6,
        7, 8, 9, 10, 15, 16, 199, 200, 201, 254, 255, 256, 998, 999, 1000, Integer.MAX_VALUE};

    public static void main(String[] args) throws IOException, IllegalAccessException {
        Check check = new Check("ReadmeTest");
        List<String> lines = Files.readAllLines(README);
        Set<String> called = example(check, lines);
        methods(check, lines, called);
        codes(check, lines);
        check.end();
    }

    /** Answers the names of the methods that the example calls. */
    private static Set<String> example(Check check, List<String> lines)
            throws IllegalAccessException {
        Set<String> called = new TreeSet<>();
        PromiseLoop loop = null;
        boolean inside = false;
        for (String line : lines) {
            if (line.startsWith("```")) {
                inside = line.equals("```java");
            } else if (inside && line.equals(NEW_OBJECT)) {
                loop = new PromiseLoop();
            } else if (inside && !line.isEmpty() && !line.startsWith("//")) {
                called.add(call(check, loop, line));
            }
        }
        return called;
    }

    private static String call(Check check, PromiseLoop loop, String line)
            throws IllegalAccessException {
        Matcher call = CALL.matcher(line);
        boolean read = call.matches();
        check.same("a call with its answer: " + line, read ? 1 : 0, 1);
        if (!read) {
            return "";
        }
        String due = call.group(4) == null ? "null" : call.group(4);
        String got = answer(loop, call.group(1), call.group(2));
        check.same(line + " (it was " + got + ")", got.equals(due) ? 1 : 0, 1);
        return call.group(1);
    }

    /** What a call answers, null if it is void, or the name of what it throws. */
    private static String answer(PromiseLoop loop, String name, String arguments)
            throws IllegalAccessException {
        List<Object> values = new ArrayList<>();
        for (String argument : arguments.isEmpty() ? new String[0] : arguments.split(", ")) {
            values.add(Integer.valueOf(argument));
        }
        try {
            return String.valueOf(method(name).invoke(loop, values.toArray()));
        } catch (InvocationTargetException e) {
            return e.getCause().getClass().getSimpleName();
        }
    }

    private static Method method(String name) {
        for (Method one : PromiseLoop.class.getDeclaredMethods()) {
            if (one.getName().equals(name)) {
                return one;
            }
        }
        throw new IllegalArgumentException(name);
    }

    private static void methods(Check check, List<String> lines, Set<String> called) {
        Set<String> told = new TreeSet<>();
        for (String line : lines) {
            Matcher row = METHOD_ROW.matcher(line);
            if (row.matches()) {
                String arguments = row.group(2);
                int parameters = arguments.isEmpty() ? 0 : arguments.split(",").length;
                told.add(row.group(1) + " " + parameters + " " + exceptions(row.group(3)));
            }
        }
        int there = 0;
        for (Method one : PromiseLoop.class.getDeclaredMethods()) {
            if (Modifier.isPublic(one.getModifiers())) {
                there++;
                String due = one.getName() + " " + one.getParameterCount() + " " + thrown(one);
                check.same("the table has " + due, told.contains(due) ? 1 : 0, 1);
                boolean shown = called.contains(one.getName());
                check.same("the example calls " + one.getName(), shown ? 1 : 0, 1);
            }
        }
        check.same("rows of methods", told.size(), there);
    }

    private static Set<String> exceptions(String cell) {
        Set<String> names = new TreeSet<>();
        Matcher name = EXCEPTION.matcher(cell);
        while (name.find()) {
            names.add(name.group());
        }
        return names;
    }

    private static Set<String> thrown(Method method) {
        Set<String> names = new TreeSet<>();
        for (Class<?> type : method.getExceptionTypes()) {
            names.add(type.getSimpleName());
        }
        return names;
    }

    /** A step is taken if and only if one of its code's rows has both of its numbers. */
    private static void codes(Check check, List<String> lines) {
        List<String[]> rows = new ArrayList<>();
        for (String line : lines) {
            Matcher row = CODE_ROW.matcher(line);
            if (row.matches()) {
                rows.add(new String[] {row.group(1), row.group(2), row.group(3)});
            }
        }
        for (int code = 0; code < CODES; code++) {
            for (int a : EDGES) {
                for (int b : EDGES) {
                    compare(check, rows, code, a, b);
                }
            }
        }
    }

    private static void compare(Check check, List<String[]> rows, int code, int a, int b) {
        boolean due = false;
        for (String[] row : rows) {
            due |= row[0].equals(String.valueOf(code)) && has(row[1], a) && has(row[2], b);
        }
        boolean taken = true;
        try {
            new PromiseLoop().step(0, code, a, b);
        } catch (IllegalArgumentException e) {
            taken = false;
        }
        check.same("step(0, " + code + ", " + a + ", " + b + ")", taken ? 1 : 0, due ? 1 : 0);
    }

    private static boolean has(String cell, int n) {
        switch (cell) {
            case "any":
                return true;
            case "function":
                return n >= 0 && n <= 9;
            case "register":
                return n >= 0 && n <= 7;
            default:
                String[] ends = cell.split(", | \\.\\. ");
                return n >= Integer.parseInt(ends[0])
                        && n <= Integer.parseInt(ends[ends.length - 1]);
        }
    }
}
