import java.io.IOException;
import java.lang.reflect.Constructor;
import java.lang.reflect.Field;
import java.lang.reflect.Method;
import java.lang.reflect.Modifier;
import java.nio.charset.StandardCharsets;
import java.nio.file.Files;
import java.nio.file.Path;
import java.util.ArrayList;
import java.util.List;
import java.util.Set;
import java.util.TreeSet;
import java.util.regex.Matcher;
import java.util.regex.Pattern;

/** The document's face, and the rules of LANGUAGE.md that can be read off class and source. */
public final class FaceTests {
    private static final String A = " IllegalArgumentException";
    private static final String B = " IndexOutOfBoundsException";
    private static final String S = " IllegalStateException";
    /** Name, number of parameters, what it answers, what it throws. */
    private static final Set<String> FACE = new TreeSet<>(List.of(
            "put 5 int" + A + S, "erase 4 int" + A + S, "eraseAll 3 int" + A,
            "restore 3 int" + A + B + S, "pass 1 int" + A + S, "today 0 int",
            "value 4 int" + A + B, "keys 3 int" + A + B, "joined 3 int" + A + B,
            "runs 3 int" + A + B, "run 4 int" + A + B, "joinedRuns 2 int" + A + B,
            "rows 2 int" + A, "rowRun 3 int" + A + B, "rowFrom 3 int" + A + B,
            "rowTo 3 int" + A + B, "corrections 5 int" + A + B, "longest 3 int" + A + B,
            "average 2 float" + A + B + S));

    public static void main(String[] args) throws IOException {
        Check.topic("face");
        methods();
        otherMembers();
        String source = Files.readString(Path.of(args[0]), StandardCharsets.US_ASCII);
        String document = Files.readString(Path.of(args[1]), StandardCharsets.UTF_8);
        Check.topic("The public face");
        declarations(source, document);
        headings(source, document);
        Check.topic("LANGUAGE.md");
        source(source);
        Check.end("FaceTests");
    }

    private static String told(Method method) {
        StringBuilder text = new StringBuilder(method.getName());
        text.append(' ').append(method.getParameterCount()).append(' ');
        text.append(method.getReturnType().getSimpleName());
        for (Class<?> thrown : method.getExceptionTypes()) {
            text.append(' ').append(thrown.getSimpleName());
        }
        return text.toString();
    }

    private static void methods() {
        Set<String> open = new TreeSet<>();
        Set<String> names = new TreeSet<>();
        List<Method> hidden = new ArrayList<>();
        for (Method method : Twotimes.class.getDeclaredMethods()) {
            if (Modifier.isPrivate(method.getModifiers())) {
                hidden.add(method);
            } else {
                Check.holds(method + " is public", method.getModifiers() == Modifier.PUBLIC);
                open.add(told(method));
                names.add(method.getName());
            }
            for (Class<?> type : method.getParameterTypes()) {
                Check.holds(method + " takes ints", type == int.class);
            }
            Check.holds(method + " takes seven at most", method.getParameterCount() <= 7);
        }
        Check.holds("the face is " + open + ", due is " + FACE, open.equals(FACE));
        for (Method method : hidden) {
            Check.holds(method + " has a public one's name", !names.contains(method.getName()));
        }
    }

    private static void otherMembers() {
        int kind = Twotimes.class.getModifiers();
        Check.holds("public and final", kind == (Modifier.PUBLIC | Modifier.FINAL));
        for (Class<?> inside : Twotimes.class.getDeclaredClasses()) {
            boolean open = (inside.getModifiers() & (Modifier.PUBLIC | Modifier.PROTECTED)) != 0;
            Check.holds(inside + " is private or package-visible, and static",
                    !open && Modifier.isStatic(inside.getModifiers()));
        }
        Constructor<?>[] constructors = Twotimes.class.getDeclaredConstructors();
        Check.due("constructors", constructors.length, 1);
        Check.due("parameters", constructors[0].getParameterCount(), 0);
        Check.due("kind", constructors[0].getModifiers(), Modifier.PUBLIC);
        for (Field field : Twotimes.class.getDeclaredFields()) {
            int modifiers = field.getModifiers();
            Check.holds(field + " is private", Modifier.isPrivate(modifiers));
            Check.holds(field + " is final, if static",
                    !Modifier.isStatic(modifiers) || Modifier.isFinal(modifiers));
        }
    }

    /** The names of parameters are not in the class, so its source is held to the document's. */
    private static void declarations(String source, String document) {
        String code = source.replaceAll("\\s+", " ");
        int found = 0;
        for (String line : document.split("\n")) {
            String declared = line.strip();
            if (declared.startsWith("public ") && declared.endsWith(";")) {
                String due = declared.substring(0, declared.length() - 1) + " {";
                Check.holds("not in the source: " + due, code.contains(due));
                found++;
            }
        }
        Check.due("the document's declarations", found, FACE.size() + 1);
    }

    private static void headings(String source, String document) {
        Matcher sentence = Pattern.compile("Ahead of the calls (.*) the interface says: (.*)\\.")
                .matcher(document);
        int named = 0;
        while (sentence.find()) {
            String heading = "// " + sentence.group(2) + "\n";
            int from = source.indexOf(heading);
            Check.holds("no heading " + heading, from >= 0);
            String rest = source.substring(Math.max(0, from + heading.length()));
            String under = rest.split("// ----")[0];
            for (String call : sentence.group(1).replace("`", "").split(", ")) {
                Check.holds(call + " does not stand under " + heading,
                        under.matches("(?s).*public (int|float) " + call + "\\(.*"));
                named++;
            }
        }
        Check.due("calls under headings", named, FACE.size());
    }

    private static void source(String text) {
        String code = text.replaceAll("(?s)/\\*.*?\\*/", "").replaceAll("//.*", "");
        String[] banned = {
            "package ", "::", "finally", "synchronized", "assert ", "static {", "getMessage",
            "Throwable", "catch (Exception", "catch (RuntimeException", "Exact(", "Random",
            "Thread", "StackTrace", ".class", "import java.io", "import java.time",
            "java.util.function", "java.util.stream",
        };
        for (String word : banned) {
            Check.holds("the source holds: " + word, !code.contains(word));
        }
        Check.holds("a library call that is not listed",
                !code.replace("System.arraycopy", "").contains("System."));
        String thrown = "throw new (IllegalState|IllegalArgument|IndexOutOfBounds)Exception"
                + "\\(\"[a-z ]+\"\\);";
        Check.holds("a throw that is not of the document's", !code.replaceAll(thrown, "")
                .replaceAll("\\bthrows\\b", "").contains("throw"));
        for (String line : text.split("\n")) {
            Check.holds("more than 100 signs: " + line, line.length() <= 100);
        }
    }
}
