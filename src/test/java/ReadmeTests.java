import java.io.IOException;
import java.lang.reflect.InvocationTargetException;
import java.lang.reflect.Method;
import java.nio.charset.StandardCharsets;
import java.nio.file.Files;
import java.nio.file.Path;
import java.util.regex.Matcher;
import java.util.regex.Pattern;

/** README.md names each call, and its example answers what stands behind each of its calls. */
public final class ReadmeTests {
    private static final Pattern CALL =
            Pattern.compile("x\\.(\\w+)\\(([-0-9, ]*)\\);\\s+// ([-.0-9]+|\\w+Exception).*");

    public static void main(String[] args) throws IOException {
        String text = Files.readString(Path.of(args[2]), StandardCharsets.UTF_8);
        Check.topic("README.md");
        example(text);
        for (Method method : Twotimes.class.getMethods()) {
            boolean isCall = method.getDeclaringClass() == Twotimes.class;
            Check.holds("does not tell of " + method.getName(),
                    !isCall || text.contains("`" + method.getName() + "("));
        }
        Check.holds("does not say how to run the tests", text.contains("\nbash .ci/run\n"));
        Check.end("ReadmeTests");
    }

    private static void example(String text) {
        Twotimes x = new Twotimes();
        int calls = 0;
        for (String line : text.split("\n")) {
            Matcher call = CALL.matcher(line);
            boolean isCall = call.matches();
            Check.holds("can't be read: " + line, isCall || !line.startsWith("x."));
            if (isCall) {
                String got = answer(x, call.group(1), call.group(2));
                Check.holds(line + " answered " + got, got.equals(call.group(3)));
                calls++;
            }
        }
        Check.holds("has no example", calls > 0);
    }

    private static Method called(String name) {
        for (Method method : Twotimes.class.getMethods()) {
            if (method.getDeclaringClass() == Twotimes.class && method.getName().equals(name)) {
                return method;
            }
        }
        return null;
    }

    private static String answer(Twotimes x, String name, String list) {
        String[] texts = list.isEmpty() ? new String[0] : list.split(", ");
        Object[] arguments = new Object[texts.length];
        for (int i = 0; i < texts.length; i++) {
            arguments[i] = Integer.parseInt(texts[i]);
        }
        Method method = called(name);
        if (method == null || method.getParameterCount() != texts.length) {
            return "that there is no such call";
        }
        try {
            return String.valueOf(method.invoke(x, arguments));
        } catch (InvocationTargetException e) {
            return e.getCause().getClass().getSimpleName();
        } catch (IllegalAccessException e) {
            return "that it is not public";
        }
    }
}
