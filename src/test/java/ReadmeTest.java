import java.io.IOException;
import java.lang.reflect.Method;
import java.lang.reflect.Modifier;
import java.nio.file.Files;
import java.nio.file.Path;
import java.util.Arrays;
import java.util.List;
import java.util.regex.Matcher;
import java.util.regex.Pattern;

/** README.md: each call of its examples answers what it says there, and no call is left out. */
public final class ReadmeTest {
    private static final Path README = Path.of("README.md");
    private static final Pattern EXAMPLE = Pattern.compile("```java\n(.*?)```", Pattern.DOTALL);
    private static final Pattern TOLD = Pattern.compile("tell\\(x, \"(.*)\"\\);");
    private static final Pattern CALL = Pattern.compile("x\\.(\\w+)\\((.*)\\);\\s*// (-?\\w+)(: .*)?");
    private static final String MAKING = "OneTricycle x = new OneTricycle();", HELPER = "static void tell";

    private OneTricycle x = new OneTricycle();

    public static void main(String[] args) throws IOException, ReflectiveOperationException {
        String readme = Files.readString(README);
        new ReadmeTest().askAll(readme);
        nothingIsLeftOut(readme);
        Check.end("ReadmeTest");
    }

    private void askAll(String readme) throws ReflectiveOperationException {
        Matcher example = EXAMPLE.matcher(readme);
        while (example.find()) {
            if (!example.group(1).startsWith(HELPER)) {
                for (String line : example.group(1).split("\n")) {
                    follow(line);
                }
            }
        }
    }

    private void follow(String line) throws ReflectiveOperationException {
        Matcher told = TOLD.matcher(line);
        Matcher call = CALL.matcher(line);
        if (line.equals(MAKING)) {
            x = new OneTricycle();
        } else if (told.matches()) {
            Check.type(x, told.group(1));
        } else if (call.matches()) {
            Check.due("README.md: " + line, ask(call.group(1), call.group(2).split(", ")), number(call.group(3)));
        } else {
            Check.holds("a line of an example in README.md can be read: " + line, false);
        }
    }

    private long ask(String name, String[] told) throws ReflectiveOperationException {
        Method method = face().stream().filter(one -> one.getName().equals(name)).findFirst().orElseThrow();
        Class<?>[] types = method.getParameterTypes();
        Object[] given = new Object[types.length];
        for (int place = 0; place < types.length; place++) {
            given[place] = argument(types[place], told[place]);
        }
        return ((Number) method.invoke(x, given)).longValue();
    }

    private static Object argument(Class<?> type, String told) {
        if (type == boolean.class) {
            return Boolean.valueOf(told);
        }
        if (type == long.class) {
            return Long.valueOf(told);
        }
        return told.startsWith("'") ? Integer.valueOf(told.charAt(1)) : Integer.valueOf(told);
    }

    private static long number(String told) throws ReflectiveOperationException {
        return told.matches("-?\\d+") ? Long.parseLong(told) : OneTricycle.class.getField(told).getInt(null);
    }

    private static List<Method> face() {
        return Arrays.stream(OneTricycle.class.getDeclaredMethods())
            .filter(one -> Modifier.isPublic(one.getModifiers())).toList();
    }

    private static void nothingIsLeftOut(String readme) {
        for (Method method : face()) {
            boolean isTold = Pattern.compile("`" + method.getName() + "[(`]").matcher(readme).find();
            Check.holds("README.md tells of " + method.getName(), isTold);
        }
        Check.holds("README.md says how the tests are run", readme.contains("bash .ci/run"));
    }
}
