import java.nio.charset.StandardCharsets;
import java.nio.file.Files;
import java.nio.file.Path;
import java.util.List;
import java.util.regex.Matcher;
import java.util.regex.Pattern;

/** Words and signs that the rules of ../shared/LANGUAGE.md leave out, sought in the class; run from the project's folder. */
public final class LanguageTest {
    private static final Path SOURCE = Path.of("src/main/java/FarPost.java");
    private static final List<String> LEFT_OUT = List.of(
        "\\b(throw|throws|try|catch|finally|synchronized|assert|volatile|native|strictfp|package|protected)\\b",
        "->", "::", "\\bfloat\\b|\\bdouble\\b", "Exact\\b", "@\\w+", "\\bObject\\b", "\\bsystem\\b",
        "\\bSystem\\.(?!arraycopy\\b)", "\\bArrays\\.(?!copyOf\\b|copyOfRange\\b|fill\\b)",
        "\\b(equals|hashCode|toString)\\s*\\(", "\"\\s*\\+|\\+\\s*\"", "\\bimport\\s+(?!java\\.util\\.Arrays;)",
        "\\bstatic\\s*\\{", "\\bstatic\\s+(?!final\\b)(?:int|long|boolean|char|String)(?:\\[\\])?\\s+\\w+\\s*[=;]");

    public static void main(String[] args) throws Exception {
        String source = Files.readString(SOURCE, StandardCharsets.ISO_8859_1);
        String code = source.replaceAll("(?s)/\\*.*?\\*/", "").replaceAll("//[^\n]*", "");
        int wrong = 0;
        for (String pattern : LEFT_OUT) {
            Matcher m = Pattern.compile(pattern).matcher(code);
            while (m.find()) {
                wrong++;
                System.out.println("language: '" + m.group() + "' stands in the class");
            }
        }
        for (int i = 0; i < source.length(); i++) {
            if (source.charAt(i) > 126) {
                wrong++;
                System.out.println("language: sign " + (int) source.charAt(i) + " stands in the class");
            }
        }
        System.out.println(wrong == 0 ? "all answers are as due" : wrong + " answers are not as due");
        if (wrong != 0) {
            System.exit(1);
        }
    }
}
