import java.io.File;
import java.io.IOException;
import java.lang.reflect.InvocationTargetException;
import java.lang.reflect.Method;
import java.lang.reflect.Modifier;
import java.nio.file.Files;
import java.nio.file.Path;
import java.util.regex.Matcher;
import java.util.regex.Pattern;

/** README.md: its example answers what it says, row by row, and it names every call and every test. */
final class ReadmeTest {
    private static final Due due = new Due("ReadmeTest");
    private static final Pattern MAKES = Pattern.compile("LongTransfer x = new LongTransfer\\((\\d+)\\); .*");
    private static final Pattern CALLS =
        Pattern.compile("x\\.(\\w+)\\(([^;]*)\\);(?: *// (-?\\d+|true|false|throws \\w+)(?::.*)?)?");

    public static void main(String[] args) throws IOException, ReflectiveOperationException {
        String readme = Files.readString(Path.of("README.md"));
        theExampleHolds(readme);
        everyCallAndTestIsNamed(readme);
        due.finish();
    }

    private static void theExampleHolds(String readme) throws ReflectiveOperationException {
        String[] rows = readme.split("```java\n", -1)[1].split("\n```", -1)[0].split("\n");
        Matcher made = MAKES.matcher(rows[0]);
        due.is("\"" + rows[0] + "\" makes an object", true, made.matches());
        LongTransfer x = new LongTransfer(Integer.parseInt(made.group(1)));
        for (int i = 1; i < rows.length; i++) {
            Matcher row = CALLS.matcher(rows[i]);
            if (!row.matches()) {
                due.is("\"" + rows[i] + "\" is a call with its answer", true, false);
                continue;
            }
            Method call = callNamed(row.group(1));
            String want = row.group(3) == null ? "null" : row.group(3);
            String got = answerOf(x, call, row.group(2));
            due.is("\"" + rows[i] + "\" answers " + got + ", and that", true, want.equals(got));
        }
    }

    private static Method callNamed(String name) {
        for (Method m : LongTransfer.class.getMethods()) {
            if (m.getName().equals(name) && m.getDeclaringClass() == LongTransfer.class) {
                return m;
            }
        }
        throw new IllegalArgumentException("README.md calls " + name);
    }

    /** A call without an answer gives null, as reflection tells it. */
    private static String answerOf(LongTransfer x, Method call, String written) throws ReflectiveOperationException {
        Class<?>[] types = call.getParameterTypes();
        String[] texts = written.isEmpty() ? new String[0] : written.split(", ");
        Object[] values = new Object[types.length];
        for (int i = 0; i < types.length; i++) {
            values[i] = valueOf(types[i], texts[i].replace("(byte) ", ""));
        }
        try {
            return String.valueOf(call.invoke(x, values));
        } catch (InvocationTargetException e) {
            return "throws " + e.getCause().getClass().getSimpleName();
        }
    }

    private static Object valueOf(Class<?> type, String text) {
        if (type == boolean.class) {
            return Boolean.valueOf(text);
        }
        if (type == byte.class) {
            return Byte.valueOf(text);
        }
        return type == long.class ? (Object) Long.valueOf(text) : (Object) Integer.valueOf(text);
    }

    private static void everyCallAndTestIsNamed(String readme) {
        for (Method m : LongTransfer.class.getDeclaredMethods()) {
            if (Modifier.isPublic(m.getModifiers())) {
                due.is("README.md names " + m.getName(), true, readme.contains("`" + m.getName() + "("));
            }
        }
        for (String file : new File("src/test/java").list()) {
            String name = file.replace(".java", "");
            if (name.endsWith("Test")) {
                due.is("README.md names " + name, true, readme.contains("| " + name + " |"));
            }
        }
    }
}
