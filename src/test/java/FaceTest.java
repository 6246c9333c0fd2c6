import java.io.IOException;
import java.lang.reflect.Constructor;
import java.lang.reflect.Field;
import java.lang.reflect.Method;
import java.lang.reflect.Modifier;
import java.nio.file.Files;
import java.nio.file.Path;
import java.util.ArrayList;
import java.util.Collections;
import java.util.List;
import java.util.Set;
import java.util.TreeSet;

/** The public face, and of LANGUAGE.md what a test can see. */
public final class FaceTest {
    private static final String[] FACE = {
        "boolean flip(int, int, int, int)",
        "boolean input(int, int)",
        "boolean power()",
        "int code(int, int)",
        "int compile()",
        "int count(int)",
        "int cycle() IllegalStateException",
        "int feed(long, long)",
        "int name(int, int)",
        "int output(int) IndexOutOfBoundsException",
        "int past(int, int) IndexOutOfBoundsException",
        "int probe(int, int, int, int)",
        "int steps(int) IllegalArgumentException IllegalStateException",
        "int symbol(int, int)",
        "int text(int, int, int)",
        "long cell(int, int) IndexOutOfBoundsException",
        "long range(int, int) IndexOutOfBoundsException",
        "long register(int, int) IndexOutOfBoundsException",
    };

    public static void main(String[] args) throws IOException {
        methods();
        constructorsAndConstants();
        classesInside();
        sourceKeepsToTheLanguage();
        Check.end();
    }

    private static void methods() {
        List<String> found = new ArrayList<>();
        Set<String> names = new TreeSet<>();
        for (Method method : VitalTwin.class.getDeclaredMethods()) {
            if (Modifier.isPublic(method.getModifiers())) {
                found.add(shown(method));
                names.add(method.getName());
            }
        }
        Collections.sort(found);
        Check.due("the public methods", String.join("\n", FACE), String.join("\n", found));
        List<Class<?>> classes = new ArrayList<>(List.of(VitalTwin.class.getDeclaredClasses()));
        classes.add(VitalTwin.class);
        for (Class<?> one : classes) {
            for (Method method : one.getDeclaredMethods()) {
                boolean isPublic = Modifier.isPublic(method.getModifiers());
                boolean isPrivate = Modifier.isPrivate(method.getModifiers());
                Check.due("the name of " + method, false, !isPublic && names.contains(method.getName()));
                Check.due("who sees " + method, true, isPublic || isPrivate || one != VitalTwin.class);
                Check.due("parameters of " + method, true, method.getParameterCount() <= 7);
            }
        }
    }

    private static String shown(Method method) {
        List<String> parameters = new ArrayList<>();
        for (Class<?> parameter : method.getParameterTypes()) {
            parameters.add(parameter.getSimpleName());
        }
        StringBuilder made = new StringBuilder(method.getReturnType().getSimpleName() + " " + method.getName());
        made.append('(').append(String.join(", ", parameters)).append(')');
        for (Class<?> thrown : method.getExceptionTypes()) {
            made.append(' ').append(thrown.getSimpleName());
        }
        return made.toString();
    }

    private static void constructorsAndConstants() {
        Check.due("the class is public and final", true, Modifier.isPublic(VitalTwin.class.getModifiers())
                && Modifier.isFinal(VitalTwin.class.getModifiers()));
        Constructor<?>[] constructors = VitalTwin.class.getDeclaredConstructors();
        Check.due("constructors", 1, constructors.length);
        Check.due("its parameters", "[int]", java.util.Arrays.toString(constructors[0].getParameterTypes()));
        Check.due("NONE", -1, VitalTwin.NONE);
        for (Field field : VitalTwin.class.getDeclaredFields()) {
            boolean isNone = field.getName().equals("NONE");
            Check.due("who sees " + field, true, isNone || Modifier.isPrivate(field.getModifiers()));
            Check.due("a static field that changes: " + field, true,
                    !Modifier.isStatic(field.getModifiers()) || Modifier.isFinal(field.getModifiers()));
        }
    }

    private static void classesInside() {
        Class<?>[] inside = VitalTwin.class.getDeclaredClasses();
        Check.due("at most some twelve classes", true, inside.length <= 11);
        for (Class<?> one : inside) {
            Check.due(one + " is static", true, Modifier.isStatic(one.getModifiers()));
            Check.due(one + " is not public", false, Modifier.isPublic(one.getModifiers()));
            int fields = 0;
            for (Field field : one.getDeclaredFields()) {
                if (!Modifier.isStatic(field.getModifiers())) {
                    fields++;
                }
            }
            Check.due(one + " has some twenty fields", true, fields <= 20);
        }
    }

    private static void sourceKeepsToTheLanguage() throws IOException {
        String source = Files.readString(Path.of("src/main/java/VitalTwin.java"));
        Check.due("imports", "java.util.Arrays", imports(source));
        String[] barred = {"->", "::", "synchronized", "finally", "static {", "getMessage", "Random", "System.out",
            "System.nano", "currentTime", "Thread", "assert ", "ArrayIndexOutOf", "NullPointer", "ClassCast", "catch (Exception",
            "catch (RuntimeException", "catch (Throwable", "ArithmeticException", "Exact("};
        String withoutComments = source.replaceAll("/\\*\\*.*?\\*/", "").replaceAll("//.*", "").replaceAll("\"[^\"]*\"", "\"\"");
        for (String text : barred) {
            Check.due("the source has " + text, -1, withoutComments.indexOf(text));
        }
        Check.due("texts are not joined by +", false, withoutComments.matches("(?s).*(\"\\s*\\+|\\+\\s*\").*"));
        methodsAreShort(source.split("\n"));
    }

    private static String imports(String source) {
        List<String> found = new ArrayList<>();
        for (String line : source.split("\n")) {
            if (line.startsWith("import ")) {
                found.add(line.substring(7, line.length() - 1));
            }
        }
        return String.join(" ", found);
    }

    private static void methodsAreShort(String[] lines) {
        int methods = 0;
        for (int first = 0; first < lines.length; first++) {
            if (lines[first].matches("(    |        )[a-zA-Z].*\\) (throws [\\w, ]+)?\\{")) {
                String end = lines[first].substring(0, lines[first].indexOf(lines[first].trim())) + "}";
                int last = first;
                while (!lines[last].equals(end)) {
                    last++;
                }
                methods++;
                Check.due("some sixty lines of " + lines[first].trim(), true, last - first < 60);
            }
        }
        Check.due("methods are found", true, methods > 100);
    }
}
