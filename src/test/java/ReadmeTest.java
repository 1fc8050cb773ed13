import java.lang.reflect.Method;
import java.nio.charset.StandardCharsets;
import java.nio.file.Files;
import java.nio.file.Path;
import java.util.ArrayList;
import java.util.List;
import java.util.Set;
import java.util.TreeSet;
import java.util.regex.Matcher;
import java.util.regex.Pattern;

/** The calls that README.md shows, in their order on one object, each with the answer that is written behind it. */
public final class ReadmeTest {
    private static final Pattern MAKES = Pattern.compile("KneesLent x = new KneesLent\\(\\);");
    private static final Pattern TYPES =
        Pattern.compile("for \\(char letter : \"([^\"]*)\"\\.toCharArray\\(\\)\\) x\\.type\\(letter\\);");
    private static final Pattern CALLS = Pattern.compile("x\\.(\\w+)\\(([^()]*)\\); +// (-?\\d+|[A-Z]+)(: \\S.*)?");
    private static final int MOST_CALLS = 512;

    private final Set<String> shown = new TreeSet<>();
    private KneesLent x = null;
    private int calls = 0;

    private ReadmeTest() {
    }

    /** The lines of all blocks of Java; what stands in no block is not run. */
    private static List<String> javaLines(List<String> readme) {
        List<String> lines = new ArrayList<>();
        boolean inside = false;
        for (String line : readme) {
            if (line.startsWith("```")) {
                inside = !inside && line.equals("```java");
            } else if (inside) {
                lines.add(line);
            }
        }
        return lines;
    }

    private void run(String line) throws ReflectiveOperationException {
        Matcher text = TYPES.matcher(line);
        Matcher call = CALLS.matcher(line);
        if (MAKES.matcher(line).matches()) {
            x = new KneesLent();
            calls = 0;
        } else if (x != null && text.matches()) {
            Due.typeAll(x, text.group(1));
            calls += text.group(1).length();
        } else if (x != null && call.matches()) {
            Due.due(line, answer(call.group(1), call.group(2)), numberOf(call.group(3)));
            shown.add(call.group(1));
            calls++;
        } else {
            Due.due("a line that is no call with an answer: " + line, 1, 0);
        }
        Due.due("a call beyond 512: " + line, calls > MOST_CALLS ? 1 : 0, 0);
    }

    private long answer(String name, String words) throws ReflectiveOperationException {
        String[] split = words.isEmpty() ? new String[0] : words.split(", ");
        Class<?>[] types = new Class<?>[split.length];
        Object[] numbers = new Object[split.length];
        for (int i = 0; i < split.length; i++) {
            types[i] = int.class;
            numbers[i] = split[i].matches("'.'") ? (int) split[i].charAt(1) : Integer.parseInt(split[i]);
        }
        Method method = KneesLent.class.getMethod(name, types);
        return ((Number) method.invoke(x, numbers)).longValue();
    }

    private static long numberOf(String answer) throws ReflectiveOperationException {
        return Character.isLetter(answer.charAt(0))
            ? KneesLent.class.getField(answer).getInt(null)
            : Integer.parseInt(answer);
    }

    private void showsEachCall() {
        for (Method method : KneesLent.class.getDeclaredMethods()) {
            if (java.lang.reflect.Modifier.isPublic(method.getModifiers())) {
                Due.due("README.md shows " + method.getName(), shown.contains(method.getName()) ? 1 : 0, 1);
            }
        }
    }

    public static void main(String[] args) throws Exception {
        Due.about("README.md");
        ReadmeTest test = new ReadmeTest();
        for (String line : javaLines(Files.readAllLines(Path.of("README.md"), StandardCharsets.UTF_8))) {
            test.run(line);
        }
        test.showsEachCall();
        Due.end();
    }
}
