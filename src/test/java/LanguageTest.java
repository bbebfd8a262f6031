import java.nio.file.Files;
import java.nio.file.Path;
import java.util.List;
import java.util.regex.Matcher;
import java.util.regex.Pattern;

/** Some rules of LANGUAGE.md that can be seen in the source's own words; run from the project's root. */
public final class LanguageTest {
    private static final Check CHECK = new Check();
    private static final String[] NEVER = {
        "\\bimport\\b", "\\bpackage\\b", "\\bthrow\\b", "\\btry\\b", "\\bcatch\\b", "\\bfinally\\b", "\\bassert\\b",
        "\\bsynchronized\\b", "->", "::", "Exact\\b", "\\bdouble\\b", "\\bfloat\\b", "\\bString\\b", "MAX_VALUE",
        "MIN_VALUE", "\\bhashCode\\b", "\\btoString\\b", "\\bThread\\b", "\\bRandom\\b", "[^\\x09\\x0a\\x20-\\x7e]"};

    public static void main(String[] args) throws Exception {
        List<String> lines = Files.readAllLines(Path.of("src/main/java/FilmLines.java"));
        int classes = 0;
        int methodAt = 0;
        for (int i = 0; i < lines.size(); i++) {
            String code = lines.get(i).replaceAll("//.*|^ *(/\\*\\*|\\*).*", "");
            for (String never : NEVER) CHECK.due("line " + (i + 1) + " has " + never, count(code, never), 0);
            // Rows are made with the object: no call makes one.
            if (count(code, "\\bnew\\b") > 0) CHECK.due("line " + (i + 1) + " makes an object", count(code, "\\bfinal\\b"), 1);
            classes += count(code, "\\bclass\\b");
            if (code.matches(" +[a-z].*\\) \\{") && !code.matches(" +(if|for|while|switch|else)\\b.*")) methodAt = i;
            if (code.matches(" {4,8}\\}")) CHECK.due("line " + (i + 1) + ": a method of over 60 lines", methodAt > 0 && code.length() == 9 && i - methodAt > 60 ? 1 : 0, 0);
            CHECK.due("line " + (i + 1) + " is too long", code.length() > 120 ? 1 : 0, 0);
        }
        CHECK.due("over twelve classes", classes > 12 ? 1 : 0, 0);
        CHECK.end("LanguageTest");
    }

    private static int count(String code, String pattern) {
        Matcher found = Pattern.compile(pattern).matcher(code);
        int many = 0;
        while (found.find()) many++;
        return many;
    }
}
