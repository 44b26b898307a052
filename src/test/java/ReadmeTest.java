import java.io.IOException;
import java.lang.reflect.InvocationTargetException;
import java.lang.reflect.Method;
import java.lang.reflect.Modifier;
import java.nio.charset.StandardCharsets;
import java.nio.file.Files;
import java.nio.file.Path;
import java.util.regex.Matcher;
import java.util.regex.Pattern;

/** The example in README.md answers as it says, and README.md names every call and constant. */
public final class ReadmeTest extends TestBase {
    private static final Pattern STRING = Pattern.compile("String string = \"([^\"]*)\";");
    private static final Pattern ROW = Pattern.compile("(?m)^yards\\.(\\w+)\\(([^)\\n]*)\\);\\s*// (-?\\d+):");
    private static final int ROWS_AT_LEAST = 10;

    public static void main(String[] args) throws IOException, IllegalAccessException, InvocationTargetException {
        heading("README.md");
        String text = Files.readString(Path.of("README.md"), StandardCharsets.UTF_8);
        example(text);
        everyCallIsNamed(text);
        end();
    }

    private static void example(String text) throws IllegalAccessException, InvocationTargetException {
        Matcher string = STRING.matcher(text);
        boolean told = string.find();
        holds("the example tells a string", told);
        KiteYards yards = told(told ? string.group(1) : "");
        Matcher row = ROW.matcher(text);
        int rows = 0;
        while (row.find()) {
            String call = row.group(1) + "(" + row.group(2) + ")";
            Method method = method(row.group(1));
            holds(call + " is a call", method != null);
            if (method != null) {
                Number answer = (Number) method.invoke(yards, given(method, row.group(2)));
                due(call, answer.longValue(), Long.parseLong(row.group(3)));
            }
            rows++;
        }
        holds("rows of the example: " + rows, rows >= ROWS_AT_LEAST);
    }

    private static Method method(String name) {
        for (Method method : KiteYards.class.getDeclaredMethods()) {
            if (Modifier.isPublic(method.getModifiers()) && method.getName().equals(name)) {
                return method;
            }
        }
        return null;
    }

    private static Object[] given(Method method, String told) {
        String[] parts = told.isEmpty() ? new String[0] : told.split(",\\s*");
        Object[] given = new Object[parts.length];
        for (int place = 0; place < parts.length; place++) {
            Class<?> type = method.getParameterTypes()[place];
            if (type == boolean.class) {
                given[place] = Boolean.valueOf(parts[place]);
            } else if (type == long.class) {
                given[place] = Long.valueOf(parts[place]);
            } else {
                given[place] = Integer.valueOf(parts[place]);
            }
        }
        return given;
    }

    private static void everyCallIsNamed(String text) {
        for (Method method : KiteYards.class.getDeclaredMethods()) {
            String name = method.getName();
            holds(name + " is named", !Modifier.isPublic(method.getModifiers()) || text.contains("`" + name + "`"));
        }
        for (String constant : new String[] {"UNKNOWN", "BAD", "LATE", "FULL", "NONE"}) {
            holds(constant + " is named", text.contains("`" + constant + "`"));
        }
    }
}
