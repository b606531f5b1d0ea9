import java.io.IOException;
import java.lang.reflect.InvocationTargetException;
import java.lang.reflect.Method;
import java.nio.file.Files;
import java.nio.file.Path;
import java.util.regex.Matcher;
import java.util.regex.Pattern;

/** The examples of README.md, as one run: each call answers what stands behind it. */
public final class ReadmeTest {
    private static final Pattern MADE = Pattern.compile("WhistleJunction junction = new WhistleJunction\\(\\);");
    private static final Pattern CALL = Pattern.compile("junction\\.(\\w+)\\((.*?)\\); +// (throws )?(-?\\w+)(:.*)?");

    private final Check check = new Check();
    private WhistleJunction junction = null;
    private int calls = 0;

    public static void main(String[] args) throws IOException {
        new ReadmeTest().run();
    }

    private void run() throws IOException {
        boolean isExample = false;
        for (String line : Files.readAllLines(Path.of("README.md"))) {
            if (line.startsWith("```")) {
                isExample = line.equals("```java");
            } else if (isExample) {
                follow(line);
            }
        }
        check.due("the examples have calls", true, () -> calls > 0);
        check.end("ReadmeTest");
    }

    private void follow(String line) {
        Matcher call = CALL.matcher(line);
        if (MADE.matcher(line).matches()) {
            junction = new WhistleJunction();
        } else if (call.matches()) {
            calls++;
            check.due(line, call.group(4), () -> answer(call.group(1), call.group(2)));
        } else {
            check.due(line, "a call with its answer", () -> "something else");
        }
    }

    /** The name of the exception's class stands for an answer that is thrown. */
    private String answer(String name, String arguments) {
        try {
            Method method = methodOf(name);
            return String.valueOf(method.invoke(junction, valuesOf(method, arguments)));
        } catch (InvocationTargetException e) {
            return e.getCause().getClass().getSimpleName();
        } catch (IllegalAccessException e) {
            throw new IllegalStateException(e);
        }
    }

    private static Method methodOf(String name) {
        for (Method method : WhistleJunction.class.getDeclaredMethods()) {
            if (method.getName().equals(name)) {
                return method;
            }
        }
        throw new IllegalStateException(name);
    }

    private static Object[] valuesOf(Method method, String arguments) {
        String[] texts = arguments.isEmpty() ? new String[0] : arguments.split(", ");
        Object[] values = new Object[texts.length];
        for (int i = 0; i < texts.length; i++) {
            boolean isTruth = method.getParameterTypes()[i] == boolean.class;
            values[i] = isTruth ? (Object) Boolean.parseBoolean(texts[i]) : (Object) Integer.decode(texts[i]);
        }
        return values;
    }
}
