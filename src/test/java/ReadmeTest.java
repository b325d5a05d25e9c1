import java.io.IOException;
import java.lang.reflect.InvocationTargetException;
import java.lang.reflect.Method;
import java.nio.charset.StandardCharsets;
import java.nio.file.Files;
import java.nio.file.Path;
import java.util.regex.Matcher;
import java.util.regex.Pattern;

/** The examples of README.md, one run of calls on one object: each answers what stands behind it. */
public final class ReadmeTest {
    private static final Pattern BLOCK = Pattern.compile("(?s)```java\n(.*?)```");
    private static final Pattern CALL =
        Pattern.compile("desk\\.(\\w+)\\(([^)]*)\\); +// (-?\\d+|true|false|throws \\w+)(: .*)?");
    private static final String MAKES = "WorksDesk desk = new WorksDesk();";

    public static void main(String[] args) throws IOException, ReflectiveOperationException {
        String readme = Files.readString(Path.of("README.md"), StandardCharsets.US_ASCII);
        Matcher block = BLOCK.matcher(readme);
        WorksDesk desk = null;
        int calls = 0;
        while (block.find()) {
            for (String line : block.group(1).split("\n")) {
                if (line.equals(MAKES)) {
                    desk = new WorksDesk();
                } else {
                    calls++;
                    example(desk, line);
                }
            }
        }
        Check.is("README.md has examples", calls > 30, true);
        facesAreNamed(readme);
        Check.end("ReadmeTest");
    }

    private static void example(WorksDesk desk, String line) throws ReflectiveOperationException {
        Matcher call = CALL.matcher(line);
        boolean told = desk != null && call.matches();
        Check.is("an object, a call and its answer: " + line, told, true);
        if (told) {
            String got = answer(desk, call.group(1), call.group(2));
            Check.is(line + " (here " + got + ")", got.equals(call.group(3)), true);
        }
    }

    private static String answer(WorksDesk desk, String name, String arguments) throws ReflectiveOperationException {
        String[] written = arguments.isEmpty() ? new String[0] : arguments.split(", ");
        for (Method method : WorksDesk.class.getMethods()) {
            if (method.getName().equals(name) && method.getParameterCount() == written.length) {
                return answer(desk, method, written);
            }
        }
        return "no such call";
    }

    private static String answer(WorksDesk desk, Method method, String[] written) throws IllegalAccessException {
        Object[] values = new Object[written.length];
        for (int i = 0; i < written.length; i++) {
            long value = Long.decode(written[i]);
            if (method.getParameterTypes()[i] == int.class) {
                values[i] = (int) value;
            } else {
                values[i] = value;
            }
        }
        try {
            return String.valueOf(method.invoke(desk, values));
        } catch (InvocationTargetException e) {
            return "throws " + e.getCause().getClass().getSimpleName();
        }
    }

    /** All that can be told is named in README.md, so that a user finds it. */
    private static void facesAreNamed(String readme) {
        String[] telling = {"sign", "end", "bill", "terms", "measures", "strikes", "stores", "change", "alters", "setsOff",
            "disputes", "decides", "handover", "closes", "pays", "due", "grants", "indexes"};
        for (String name : telling) {
            Check.is(name + " is named in README.md", readme.contains("`" + name + "`"), true);
        }
    }
}
