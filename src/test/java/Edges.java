import java.io.IOException;
import java.nio.charset.StandardCharsets;
import java.nio.file.Files;
import java.nio.file.Path;
import java.util.LinkedHashMap;
import java.util.List;
import java.util.Map;
import java.util.regex.Matcher;
import java.util.regex.Pattern;

/**
 * Tests that go by the document's sentences: says() quotes one to the letter, and what is due until the next one
 * is its test. What is left of a section must name no edge, so that no sentence is forgotten.
 */
class Edges extends Given {
    private static final Path DOC = Path.of("../shared/DOC.md");
    private static final Pattern EDGE = Pattern.compile(
        "[0-9]|\\b(BAD|STATE|FULL|NONE|NO|ahead|empty|missing|least|most|first|fewest|fewer|more|too|cut|lowest|others|truly|nothing|wrapping)\\b");
    private static final Map<String, String> sections = new LinkedHashMap<>();
    private static String section = "";
    private static StringBuilder left = new StringBuilder();
    private static String sentence = "";
    private static int answers = 0;

    /** The document's sections, each by its heading, till section() takes it. */
    static void read() throws IOException {
        String[] parts = Files.readString(DOC, StandardCharsets.UTF_8).split("(?m)^## ");
        for (String part : parts) {
            int end = part.indexOf('\n');
            sections.put(part.substring(0, end).trim(), part.substring(end));
        }
    }

    static void section(String heading) {
        endSection();
        String text = "";
        for (String key : List.copyOf(sections.keySet())) {
            if (key.equals(heading) || key.startsWith(heading + ":")) text = sections.remove(key);
        }
        section = heading;
        left = new StringBuilder(text.replaceAll("(?m)^(Ahead of the calls .*|====.\\d|```text)", ""));
        Check.due("section '" + heading + "' is in the document", text.isEmpty() ? 0 : 1, 1);
    }

    /** A sentence of the section, to the letter; one that stands there twice is asked for twice. */
    static void says(String words) {
        endSentence();
        sentence = words;
        answers = 0;
        int at = left.indexOf(words);
        Check.due(section + " says '" + words + "'", at >= 0 ? 1 : 0, 1);
        if (at >= 0) left.replace(at, at + words.length(), "~");
    }

    static void due(String call, long got, long want) {
        answers++;
        Check.due(section + ", '" + sentence + "': " + call, got, want);
    }

    private static void endSentence() {
        if (!sentence.isEmpty()) Check.due("tests of '" + sentence + "'", answers > 0 ? 1 : 0, 1);
        sentence = "";
    }

    private static void endSection() {
        endSentence();
        Matcher edge = EDGE.matcher(left);
        boolean found = edge.find();
        String near = found ? left.substring(edge.start(), Math.min(left.length(), edge.start() + 60)) : "";
        Check.due(section + " has no test of '" + near + "'", found ? 1 : 0, 0);
        left.setLength(0);
    }

    /** No section whose heading begins so is left. */
    static void end(String headings) {
        endSection();
        for (String key : sections.keySet()) Check.due("tests of " + key, key.startsWith(headings) ? 0 : 1, 1);
        Check.end();
    }
}
