import java.io.IOException;
import java.lang.reflect.Field;
import java.lang.reflect.Method;
import java.lang.reflect.Modifier;
import java.nio.file.Files;
import java.nio.file.Path;
import java.util.ArrayList;
import java.util.List;
import java.util.Set;
import java.util.TreeSet;
import java.util.regex.Matcher;
import java.util.regex.Pattern;

/**
 * Rules of LANGUAGE.md that can be seen in the source's own words or in the compiled classes; run from the project's
 * root.
 */
public final class LanguageTest {
    private static final Check CHECK = new Check();
    private static final String[] NEVER = {
        "\\bimport\\b", "\\bpackage\\b", "\\bthrow\\b", "\\btry\\b", "\\bcatch\\b", "\\bfinally\\b", "\\bassert\\b",
        "\\bsynchronized\\b", "->", "::", "Exact\\b", "\\bdouble\\b", "\\bfloat\\b", "\\bString\\b", "MAX_VALUE",
        "MIN_VALUE", "\\bhashCode\\b", "\\btoString\\b", "\\bThread\\b", "\\bRandom\\b", "[^\\x09\\x0a\\x20-\\x7e]"};
    private static final Set<String> LIBRARY = Set.of(
        "Math.max", "Math.min", "Math.abs", "Integer.bitCount", "Long.bitCount", "System.arraycopy");
    private static final Set<Class<?>> STATIC_KINDS = Set.of(int.class, long.class, int[].class);
    private static final int MOST_CLASSES = 12, MOST_FIELDS = 20, MOST_PARAMETERS = 7;

    public static void main(String[] args) throws IOException {
        List<Class<?>> classes = new ArrayList<>(List.of(FilmLines.class.getDeclaredClasses()));
        classes.add(FilmLines.class);
        source(Files.readAllLines(Path.of("src/main/java/FilmLines.java")), classes);
        CHECK.due("rule 11: over twelve classes", classes.size() > MOST_CLASSES ? 1 : 0, 0);
        for (Class<?> kind : classes) {
            inside(kind);
            fields(kind);
            methods(kind);
        }
        CHECK.end("LanguageTest");
    }

    private static void source(List<String> lines, List<Class<?>> classes) {
        int methodAt = 0;
        for (int i = 0; i < lines.size(); i++) {
            String code = lines.get(i).replaceAll("//.*|^ *(/\\*\\*|\\*).*", "");
            String place = "line " + (i + 1);
            for (String never : NEVER) CHECK.due(place + " has " + never, count(code, never), 0);
            // Rows are made with the object: no call makes one.
            if (count(code, "\\bnew\\b") > 0) CHECK.due(place + " makes an object", count(code, "\\bfinal\\b"), 1);
            if (code.matches(" +[a-z].*\\) \\{") && !code.matches(" +(if|for|while|switch|else)\\b.*")) methodAt = i;
            boolean over = code.matches(" {4,8}\\}") && methodAt > 0 && code.length() == 9 && i - methodAt > 60;
            CHECK.due(place + ": rule 11: a method of over 60 lines", over ? 1 : 0, 0);
            CHECK.due(place + " is too long", code.length() > 120 ? 1 : 0, 0);
            library(place, code, classes);
        }
    }

    private static void library(String place, String code, List<Class<?>> classes) {
        Matcher used = Pattern.compile("\\b([A-Z][a-z]\\w*)\\.\\w+").matcher(code);
        while (used.find()) {
            boolean own = classes.stream().anyMatch(c -> c.getSimpleName().equals(used.group(1)));
            CHECK.due(place + ": rule 4: " + used.group(), own || LIBRARY.contains(used.group()) ? 1 : 0, 1);
        }
    }

    private static void inside(Class<?> kind) {
        if (kind == FilmLines.class) return;
        int how = kind.getModifiers();
        boolean seen = Modifier.isPublic(how) || Modifier.isProtected(how);
        CHECK.due("rule 1: " + kind + " is static, not public", Modifier.isStatic(how) && !seen ? 1 : 0, 1);
        CHECK.due("rule 2: classes inside " + kind, kind.getDeclaredClasses().length, 0);
    }

    private static void fields(Class<?> kind) {
        int own = 0;
        for (Field f : kind.getDeclaredFields()) {
            if (Modifier.isStatic(f.getModifiers())) {
                boolean constant = Modifier.isFinal(f.getModifiers()) && STATIC_KINDS.contains(f.getType());
                CHECK.due("rule 5: a constant: " + f, constant ? 1 : 0, 1);
            } else {
                own++;
            }
        }
        CHECK.due("rule 11: over twenty fields: " + kind, own > MOST_FIELDS ? 1 : 0, 0);
    }

    private static void methods(Class<?> kind) {
        Set<String> face = new TreeSet<>();
        for (Method m : FilmLines.class.getDeclaredMethods()) if (Modifier.isPublic(m.getModifiers())) face.add(m.getName());
        for (Method m : kind.getDeclaredMethods()) {
            CHECK.due("rule 11: over seven parameters: " + m, m.getParameterCount() > MOST_PARAMETERS ? 1 : 0, 0);
            boolean hidden = Modifier.isPrivate(m.getModifiers());
            CHECK.due("rule 1: a private one with a name of the face: " + m, hidden && face.contains(m.getName()) ? 1 : 0, 0);
            CHECK.due("rule 6: throws: " + m, m.getExceptionTypes().length, 0);
        }
    }

    private static int count(String code, String pattern) {
        Matcher found = Pattern.compile(pattern).matcher(code);
        int many = 0;
        while (found.find()) many++;
        return many;
    }
}
