import java.io.IOException;
import java.lang.reflect.Method;
import java.nio.charset.StandardCharsets;
import java.nio.file.Files;
import java.nio.file.Path;
import java.util.regex.Matcher;
import java.util.regex.Pattern;

/** README.md's examples, line by line: each call answers what stands behind it. */
public final class ReadmeTest {
    private static final Pattern CALL = Pattern.compile("x\\.(\\w+)\\(([-0-9, ]*)\\);\\s+// (-?\\d+): .+");
    private static final Pattern TEXT = Pattern.compile("String text = \"([^\"]*)\";");
    private static final String FEED = "for (int i = 0; i < text.length(); i++) x.feed(text.charAt(i));";

    private AWordStuck x = new AWordStuck();
    private String text = "";
    private int calls = 0;

    private ReadmeTest() { }

    public static void main(String[] args) throws IOException {
        ReadmeTest test = new ReadmeTest();
        String readme = Files.readString(Path.of("README.md"), StandardCharsets.UTF_8);
        Matcher block = Pattern.compile("(?s)```java\n(.*?)```").matcher(readme);
        while (block.find()) {
            for (String line : block.group(1).split("\n")) test.line(line.trim());
        }
        Check.due("README.md shows calls", test.calls > 0 ? 1 : 0, 1);
        Check.end();
    }

    private void line(String line) {
        Matcher call = CALL.matcher(line);
        Matcher told = TEXT.matcher(line);
        if (line.equals("AWordStuck x = new AWordStuck();")) x = new AWordStuck();
        else if (line.equals(FEED)) Check.feed(x, text);
        else if (told.matches()) text = told.group(1);
        else if (call.matches()) call(line, call.group(1), call.group(2), Long.parseLong(call.group(3)));
        else Check.due("README.md's line '" + line + "' can be tried", 0, 1);
    }

    private void call(String line, String name, String numbers, long due) {
        Object[] given = numbers.isBlank() ? new Object[0] : Pattern.compile(", *").splitAsStream(numbers).map(Integer::valueOf).toArray();
        long got = Long.MIN_VALUE;
        for (Method m : AWordStuck.class.getMethods()) {
            if (!m.getName().equals(name) || m.getParameterCount() != given.length) continue;
            try {
                got = ((Number) m.invoke(x, given)).longValue();
            } catch (ReflectiveOperationException e) {
                System.out.println(e);
            }
        }
        calls++;
        Check.due("README.md: " + line, got, due);
    }
}
