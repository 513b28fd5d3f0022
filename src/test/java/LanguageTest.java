import java.lang.reflect.Field;
import java.lang.reflect.Method;
import java.lang.reflect.Modifier;
import java.nio.charset.StandardCharsets;
import java.nio.file.Files;
import java.nio.file.Path;
import java.util.List;
import java.util.regex.Matcher;
import java.util.regex.Pattern;

/** What the rules of ../shared/LANGUAGE.md leave out, sought in the class; run from the project's folder. */
public final class LanguageTest {
    private static final Path SOURCE = Path.of("src/main/java/FarPost.java");
    private static final List<String> LEFT_OUT = List.of(
        "\\b(throw|throws|try|catch|finally|synchronized|assert|volatile|native|strictfp|package|protected)\\b",
        "->", "::", "\\bfloat\\b|\\bdouble\\b", "Exact\\b", "@\\w+", "\\bObject\\b", "\\bsystem\\b",
        "\\bSystem\\.(?!arraycopy\\b)", "\\bArrays\\.(?!copyOf\\b|copyOfRange\\b|fill\\b)",
        "\\b(equals|hashCode|toString)\\s*\\(", "\"\\s*\\+|\\+\\s*\"", "\\bimport\\s+(?!java\\.util\\.Arrays;)",
        "\\bstatic\\s*\\{", "\\bstatic\\s+(?!final\\b)(?:int|long|boolean|char|String)(?:\\[\\])?\\s+\\w+\\s*[=;]");

    /** A method begins with a line that ends in ') {' and is no further in than a class's members; it ends as far in. */
    private static final Pattern METHOD = Pattern.compile(
        "(?m)^( {4}| {8})(?! |if |for |while |switch )[^\\n]*\\) \\{\\n(?s:.*?)\\n\\1\\}$");
    private static final int CLASSES_MOST = 12;
    private static final int FIELDS_MOST = 20;
    private static final int PARAMETERS_MOST = 7;
    private static final int LINES_MOST = 60;

    private static int wrong = 0;

    private static void check(String what, boolean holds) {
        if (!holds) {
            wrong++;
            System.out.println("language: " + what);
        }
    }

    /** Fields beside constants, parameters of methods. */
    private static void sizes(Class<?> c) {
        int fields = 0;
        for (Field f : c.getDeclaredFields()) {
            fields += Modifier.isStatic(f.getModifiers()) ? 0 : 1;
        }
        check(c.getName() + " has " + fields + " fields", fields <= FIELDS_MOST);
        for (Method m : c.getDeclaredMethods()) {
            check(c.getName() + "." + m.getName() + " has too many parameters", m.getParameterCount() <= PARAMETERS_MOST);
        }
    }

    private static void lengths(String source) {
        Matcher m = METHOD.matcher(source);
        int seen = 0;
        while (m.find()) {
            seen++;
            int lines = m.group().split("\n").length;
            check(lines + " lines: " + m.group().split("\n")[0].trim(), lines <= LINES_MOST);
        }
        check("only " + seen + " methods are seen", seen >= 100);
    }

    public static void main(String[] args) throws Exception {
        String source = Files.readString(SOURCE, StandardCharsets.ISO_8859_1);
        String code = source.replaceAll("(?s)/\\*.*?\\*/", "").replaceAll("//[^\n]*", "");
        Class<?>[] inside = FarPost.class.getDeclaredClasses();
        check(inside.length + 1 + " classes", inside.length + 1 <= CLASSES_MOST);
        sizes(FarPost.class);
        for (Class<?> c : inside) {
            sizes(c);
        }
        lengths(source);
        for (String pattern : LEFT_OUT) {
            Matcher m = Pattern.compile(pattern).matcher(code);
            while (m.find()) {
                check("'" + m.group() + "' stands in the class", false);
            }
        }
        for (int i = 0; i < source.length(); i++) {
            check("sign " + (int) source.charAt(i) + " stands in the class", source.charAt(i) <= 126);
        }
        System.out.println(wrong == 0 ? "all answers are as due" : wrong + " answers are not as due");
        if (wrong != 0) {
            System.exit(1);
        }
    }
}
