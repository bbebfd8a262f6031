import java.io.IOException;
import java.nio.file.DirectoryStream;
import java.nio.file.Files;
import java.nio.file.Path;
import java.util.Set;
import java.util.TreeSet;
import java.util.regex.Matcher;
import java.util.regex.Pattern;

/** That each of promises 1 to 38 has sentences of its own in the tests of edges; run from the project's root. */
public final class PromisesTest {
    private static final Pattern SENTENCE = Pattern.compile("EDGES\\.sentence\\((\\d+), ");

    public static void main(String[] args) throws IOException {
        Set<Integer> held = new TreeSet<>();
        try (DirectoryStream<Path> tests = Files.newDirectoryStream(Path.of("src/test/java"), "*EdgesTest.java")) {
            for (Path test : tests) {
                Matcher found = SENTENCE.matcher(Files.readString(test));
                while (found.find()) held.add(Integer.parseInt(found.group(1)));
            }
        }
        Check check = new Check();
        for (int promise = 1; promise <= 38; promise++) check.due("sentences of promise " + promise, held.contains(promise) ? 1 : 0, 1);
        check.end("PromisesTest");
    }
}
