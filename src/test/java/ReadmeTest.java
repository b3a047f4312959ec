import java.io.IOException;
import java.lang.reflect.Method;
import java.lang.reflect.Modifier;
import java.nio.file.Files;
import java.nio.file.Path;
import java.util.List;
import java.util.regex.Matcher;
import java.util.regex.Pattern;

/** The calls of the example in README.md answer what stands behind them; its table tells every call. */
public final class ReadmeTest {

    private static final Pattern CALL = Pattern.compile("turner\\.(\\w+)\\((.*)\\); +// (.*)");

    public static void main(String[] args) throws IOException, ReflectiveOperationException {
        List<String> readme = Files.readAllLines(Path.of("README.md"));
        example(readme);
        table(readme);
        Checks.end();
    }

    private static void example(List<String> readme) throws ReflectiveOperationException {
        int start = readme.indexOf("```java");
        Checks.due("there is an example", start >= 0, true);
        Checks.due("how it starts", readme.get(start + 1), "LogTurner turner = new LogTurner();");
        LogTurner turner = new LogTurner();
        int calls = 0;
        for (int i = start + 2; !readme.get(i).equals("```"); i++) {
            Matcher call = CALL.matcher(readme.get(i));
            Checks.due("a call: " + readme.get(i), call.matches(), true);
            Method method = named(call.group(1));
            Object answer = method.invoke(turner, arguments(call.group(2)));
            if (method.getReturnType() != void.class) {
                Checks.due(readme.get(i), String.valueOf(answer), call.group(3).split(":")[0]);
            }
            calls++;
        }
        Checks.due("calls in the example", calls > 0, true);
    }

    /** No two methods of the class have the same name, as FaceTest tests. */
    private static Method named(String name) {
        for (Method method : LogTurner.class.getMethods()) {
            if (method.getName().equals(name)) {
                return method;
            }
        }
        throw new IllegalArgumentException("README.md calls " + name + ", which is no method");
    }

    private static Object[] arguments(String text) {
        if (text.isEmpty()) {
            return new Object[0];
        }
        String[] each = text.split(", ");
        Object[] arguments = new Object[each.length];
        for (int i = 0; i < each.length; i++) {
            arguments[i] = argument(each[i]);
        }
        return arguments;
    }

    private static Object argument(String text) {
        if (text.equals("true") || text.equals("false")) {
            return Boolean.valueOf(text);
        }
        return text.equals("LogTurner.NONE") ? LogTurner.NONE : Integer.valueOf(text);
    }

    private static void table(List<String> readme) {
        for (Method method : LogTurner.class.getDeclaredMethods()) {
            if (Modifier.isPublic(method.getModifiers())) {
                boolean told = false;
                for (String line : readme) {
                    told |= line.startsWith("| `") && line.contains("`" + method.getName() + "(");
                }
                Checks.due("README.md tells " + method.getName(), told, true);
            }
        }
    }
}
