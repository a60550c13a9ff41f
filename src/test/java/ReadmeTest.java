import java.io.IOException;
import java.lang.reflect.Field;
import java.lang.reflect.Method;
import java.lang.reflect.Modifier;
import java.nio.file.Files;
import java.nio.file.Path;
import java.util.regex.Matcher;
import java.util.regex.Pattern;

/** README.md names the whole public face, and the calls of its example answer what stands behind them. */
final class ReadmeTest {
    private static final Pattern CALL = Pattern.compile("x\\.(\\w+)\\((.*)\\); +// (-?\\d+): .*");

    private ReadmeTest() {
    }

    public static void main(String[] args) throws IOException, ReflectiveOperationException {
        String text = Files.readString(Path.of("README.md"));
        Check.holds("README names the constructor", text.contains("`BrotherAutomata()`"));
        for (Method method : BrotherAutomata.class.getDeclaredMethods()) {
            if (Modifier.isPublic(method.getModifiers())) {
                Check.holds("README names " + form(method), Pattern.compile(form(method)).matcher(text).find());
            }
        }
        for (Field field : BrotherAutomata.class.getDeclaredFields()) {
            if (Modifier.isPublic(field.getModifiers())) {
                Check.holds("README names " + field.getName(), text.contains("`" + field.getName() + "`"));
            }
        }
        for (String error : new String[] {"INVALID_ARGUMENT", "LIMIT_REACHED", "NOT_FOUND"}) {
            Check.holds("README tells the value of " + error,
                    text.contains("`" + error + "` (" + BrotherAutomata.class.getField(error).getInt(null) + ")"));
        }
        example(text.substring(text.indexOf("```java") + 7, text.lastIndexOf("```")));
        Check.holds("README says how to run the tests", text.contains("    .ci/run\n"));
        Check.close("ReadmeTest");
    }

    /** The method as README writes it, with its parameters' types; their names are README's own. */
    private static String form(Method method) {
        StringBuilder form = new StringBuilder("`" + method.getName() + "\\(");
        String before = "";
        for (Class<?> type : method.getParameterTypes()) {
            form.append(before).append(type.getSimpleName()).append(" \\w+");
            before = ", ";
        }
        return form.append("\\)`").toString();
    }

    private static void example(String lines) throws ReflectiveOperationException {
        BrotherAutomata x = new BrotherAutomata();
        int calls = 0;
        for (String line : lines.split("\n")) {
            if (line.startsWith("x.")) {
                Matcher call = CALL.matcher(line);
                Check.holds("README's line can be read: " + line, call.matches());
                if (call.matches()) {
                    Check.due("README: " + line, answer(x, call.group(1), call.group(2)),
                            Integer.parseInt(call.group(3)));
                    calls++;
                }
            }
        }
        Check.due("calls of README's example", calls, 10);
    }

    private static int answer(BrotherAutomata x, String name, String texts) throws ReflectiveOperationException {
        String[] given = texts.isEmpty() ? new String[0] : texts.split(", ");
        Class<?>[] types = new Class<?>[given.length];
        Object[] values = new Object[given.length];
        for (int place = 0; place < given.length; place++) {
            values[place] = value(given[place]);
            types[place] = values[place] instanceof Boolean ? boolean.class : int.class;
        }
        return (Integer) BrotherAutomata.class.getMethod(name, types).invoke(x, values);
    }

    private static Object value(String text) throws ReflectiveOperationException {
        if (text.equals("true") || text.equals("false")) {
            return text.equals("true");
        }
        if (text.startsWith("BrotherAutomata.")) {
            return BrotherAutomata.class.getField(text.substring("BrotherAutomata.".length())).getInt(null);
        }
        return Integer.parseInt(text);
    }
}
