import java.lang.reflect.Constructor;
import java.lang.reflect.Executable;
import java.lang.reflect.Field;
import java.lang.reflect.Method;
import java.lang.reflect.Modifier;
import java.util.Set;
import java.util.TreeSet;

/** The public face: the document's members, with its exceptions, and no other that can be seen. */
public final class FaceTest {
    private static final Set<String> DUE = Set.of(
            "PromiseLoop() throws",
            "int step(int,int,int,int) throws IllegalArgumentException IllegalStateException",
            "void clear(int) throws IllegalArgumentException",
            "int post(int,int,int) throws IllegalArgumentException IllegalStateException",
            "void prefer(int) throws IllegalArgumentException",
            "int turn() throws",
            "int advance(int) throws IllegalArgumentException",
            "int register(int) throws IndexOutOfBoundsException",
            "int state(int) throws IndexOutOfBoundsException",
            "int value(int) throws IndexOutOfBoundsException IllegalStateException",
            "int count(int) throws IllegalArgumentException",
            "int logged(int) throws IndexOutOfBoundsException",
            "int reported(int) throws IndexOutOfBoundsException",
            "int due(int) throws",
            "int time() throws");

    public static void main(String[] args) {
        Check check = new Check("FaceTest");
        Class<PromiseLoop> face = PromiseLoop.class;
        check.same("public and final", face.getModifiers(), Modifier.PUBLIC | Modifier.FINAL);
        Set<String> seen = new TreeSet<>();
        Set<String> hidden = new TreeSet<>();
        for (Constructor<?> c : face.getDeclaredConstructors()) {
            seen.add(told("PromiseLoop", c));
        }
        for (Method m : face.getDeclaredMethods()) {
            if (Modifier.isPrivate(m.getModifiers())) {
                hidden.add(m.getName());
            } else {
                seen.add(told(m.getReturnType() + " " + m.getName(), m));
            }
        }
        for (Field f : face.getDeclaredFields()) {
            if (!Modifier.isPrivate(f.getModifiers())) {
                seen.add(f.toString());
            }
        }
        compare(check, seen);
        for (String due : DUE) {
            String name = due.substring(due.indexOf(' ') + 1).replaceAll("\\(.*", "");
            check.same("private methods named " + name, hidden.contains(name) ? 1 : 0, 0);
        }
        check.end();
    }

    private static void compare(Check check, Set<String> seen) {
        for (String due : DUE) {
            check.same("there is " + due, seen.contains(due) ? 1 : 0, 1);
        }
        for (String one : seen) {
            check.same("the document has " + one, DUE.contains(one) ? 1 : 0, 1);
        }
    }

    private static String told(String start, Executable member) {
        StringBuilder text = new StringBuilder(start).append('(');
        String between = "";
        for (Class<?> type : member.getParameterTypes()) {
            text.append(between).append(type);
            between = ",";
        }
        text.append(") throws");
        for (Class<?> type : member.getExceptionTypes()) {
            text.append(' ').append(type.getSimpleName());
        }
        return text.toString();
    }
}
