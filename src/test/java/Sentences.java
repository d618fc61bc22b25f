import java.io.IOException;
import java.nio.charset.StandardCharsets;
import java.nio.file.Files;
import java.nio.file.Path;
import java.util.LinkedHashMap;
import java.util.LinkedHashSet;
import java.util.List;
import java.util.Map;
import java.util.Set;

/**
 * The document's sentences, and which of them has a test. Each test names the sentence that it
 * holds, in the document's words; a line of a promise that no test names is told as a fault.
 */
final class Sentences {
    /** The document's sections by their headings. */
    private final Map<String, String> sections = new LinkedHashMap<>();
    private final Set<String> tested = new LinkedHashSet<>();
    private String section = "";

    Sentences(String document) throws IOException {
        String text = Files.readString(Path.of(document), StandardCharsets.UTF_8);
        for (String part : text.replace("\r", "").split("\n## ")) {
            int end = part.indexOf('\n');
            sections.put(part.substring(0, Math.max(end, 0)), part.substring(end + 1));
        }
    }

    void section(String heading) {
        section = heading;
        Check.topic(heading);
        Check.holds("the document has no such section", sections.containsKey(heading));
    }

    void test(String sentence, Runnable test) {
        Check.topic(section + ", \"" + sentence + "\"");
        String words = sections.getOrDefault(section, "");
        Check.holds("the document does not say this", words.contains(sentence));
        tested.add(section + sentence);
        try {
            test.run();
        } catch (RuntimeException e) {
            Check.holds("a call threw " + e + " at " + List.of(e.getStackTrace()), false);
        }
    }

    /** Each line of the section but the call's own must have had a test. */
    void allTested() {
        Check.topic(section);
        for (String line : sections.getOrDefault(section, "").split("\n")) {
            String sentence = line.startsWith("`") ? line.substring(line.indexOf("`: ") + 3) : line;
            boolean named = sentence.isBlank() || tested.contains(section + sentence);
            Check.holds("no test for: " + sentence, named);
        }
    }
}
