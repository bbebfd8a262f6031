import java.io.IOException;
import java.lang.reflect.Method;
import java.nio.file.Files;
import java.nio.file.Path;
import java.util.List;
import java.util.Set;
import java.util.TreeSet;
import java.util.regex.Matcher;
import java.util.regex.Pattern;

/**
 * That the examples of README.md answer as it says, and that they use every call of the face; run from the project's
 * root.
 */
public final class ReadmeTest {
    private static final Check CHECK = new Check();
    private static final Pattern CALL = Pattern.compile("x\\.(\\w+)\\(((?:'.'|[^')])*)\\);");
    private static final Pattern ANSWER = Pattern.compile("// (-?\\d+)(:.*)?$");
    private static final String MADE = "FilmLines x = new FilmLines();";

    private final Set<String> used = new TreeSet<>();
    private FilmLines x;

    public static void main(String[] args) throws IOException {
        ReadmeTest test = new ReadmeTest();
        test.examples(Files.readAllLines(Path.of("README.md")));
        for (Method m : FilmLines.class.getMethods()) {
            boolean known = m.getDeclaringClass() != FilmLines.class || test.used.contains(m.getName());
            CHECK.due("an example uses " + m.getName(), known ? 1 : 0, 1);
        }
        CHECK.end("ReadmeTest");
    }

    private void examples(List<String> lines) {
        boolean example = false;
        for (int i = 0; i < lines.size(); i++) {
            String line = lines.get(i);
            if (line.startsWith("```")) {
                example = line.equals("```java");
                x = null;
            } else if (example) {
                example("README.md " + (i + 1) + ": " + line, line);
            }
        }
    }

    /** A line makes the object, or its last call answers what stands behind it. */
    private void example(String place, String line) {
        if (line.equals(MADE)) {
            x = new FilmLines();
            return;
        }
        Matcher call = CALL.matcher(line);
        Matcher answer = ANSWER.matcher(line);
        CHECK.due(place + " tells an answer of an object", x != null && answer.find() ? 1 : 0, 1);
        int last = FilmLines.NONE;
        int found = 0;
        for (; x != null && call.find(); found++) {
            used.add(call.group(1));
            last = Call.of(call.group(1) + "(" + numbers(call.group(2)) + ")").on(x);
        }
        CHECK.due(place + " has a call", found > 0 ? 1 : 0, 1);
        if (x != null && found > 0) CHECK.due(place, last, Integer.parseInt(answer.group(1)));
    }

    /** The numbers in digits: README.md writes signs as 'b' and bits as 0b101. */
    private static String numbers(String written) {
        Matcher signs = Pattern.compile("'(.)'").matcher(written);
        String plain = signs.replaceAll(n -> Integer.toString(n.group(1).charAt(0)));
        Matcher bits = Pattern.compile("0b([01]+)").matcher(plain);
        return bits.replaceAll(n -> Integer.toString(Integer.parseInt(n.group(1), 2)));
    }
}
