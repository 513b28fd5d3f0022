import java.lang.reflect.Method;
import java.lang.reflect.Modifier;
import java.nio.file.Files;
import java.nio.file.Path;
import java.util.HashMap;
import java.util.List;
import java.util.Map;
import java.util.regex.Matcher;
import java.util.regex.Pattern;

/** The examples of README.md answer what it says, and it names every call; run from the project's folder. */
public final class ReadmeTest {
    private static final Path README = Path.of("README.md");
    private static final Pattern MAKING = Pattern.compile("FarPost post = new FarPost\\(\\);");
    private static final Pattern CALL = Pattern.compile("post\\.(\\w+)\\(([^)]*)\\);\\s+// (-?\\d+): .+");
    private static final int CALLS_LEAST = 40;

    private static int wrong = 0;
    private static int calls = 0;

    private static void check(String what, boolean holds) {
        if (!holds) {
            wrong++;
            System.out.println("README: " + what);
        }
    }

    private static Map<String, Method> face() {
        Map<String, Method> face = new HashMap<>();
        for (Method m : FarPost.class.getDeclaredMethods()) {
            if (Modifier.isPublic(m.getModifiers())) {
                face.put(m.getName(), m);
            }
        }
        return face;
    }

    private static Object[] numbers(String list) {
        String[] parts = list.isEmpty() ? new String[0] : list.split(", ");
        Object[] numbers = new Object[parts.length];
        for (int i = 0; i < parts.length; i++) {
            numbers[i] = Integer.decode(parts[i]);
        }
        return numbers;
    }

    private static void examples(List<String> lines, Map<String, Method> face) throws Exception {
        boolean inside = false;
        FarPost post = null;
        for (String line : lines) {
            if (line.startsWith("```")) {
                inside = line.equals("```java");
                post = null;
            } else if (inside && MAKING.matcher(line).matches()) {
                post = new FarPost();
            } else if (inside) {
                Matcher m = CALL.matcher(line);
                boolean isCall = m.matches() && face.containsKey(m.group(1));
                check("no call of an office, with its answer: " + line, isCall && post != null);
                if (isCall && post != null) {
                    long answer = ((Number) face.get(m.group(1)).invoke(post, numbers(m.group(2)))).longValue();
                    check("answered is " + answer + ": " + line, answer == Long.parseLong(m.group(3)));
                    calls++;
                }
            }
        }
    }

    public static void main(String[] args) throws Exception {
        List<String> lines = Files.readAllLines(README);
        Map<String, Method> face = face();
        examples(lines, face);
        check("its examples have " + calls + " calls alone", calls >= CALLS_LEAST);
        String text = String.join("\n", lines);
        for (Method m : face.values()) {
            Matcher named = Pattern.compile("`" + m.getName() + "\\(([^)]*)\\)`").matcher(text);
            boolean found = false;
            while (named.find()) {
                int arguments = named.group(1).isEmpty() ? 0 : named.group(1).split(", ").length;
                found = found || arguments == m.getParameterCount();
            }
            check("it doesn't tell of " + m.getName() + " with its arguments", found);
        }
        System.out.println(wrong == 0 ? "all answers are as due" : wrong + " answers are not as due");
        if (wrong != 0) {
            System.exit(1);
        }
    }
}
