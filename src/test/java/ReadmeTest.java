import java.io.IOException;
import java.lang.reflect.Field;
import java.lang.reflect.Method;
import java.lang.reflect.Modifier;
import java.nio.file.Files;
import java.nio.file.Path;
import java.util.Arrays;
import java.util.List;
import java.util.regex.Matcher;
import java.util.regex.Pattern;

/** README.md: each call of its examples answers the number behind it, and it names the whole face. */
public final class ReadmeTest {
    private static final String NEW = "TailMerger x = new TailMerger();";
    /** A call on x, and behind it the answer. */
    private static final Pattern CALL = Pattern.compile("x\\.(\\w+)\\(([^)]*)\\); +// (-?\\d+)(:.*)?");
    private static final Check CHECK = new Check();

    public static void main(String[] args) throws IOException, ReflectiveOperationException {
        List<String> lines = Files.readAllLines(Path.of("README.md"));
        checkExamples(lines);
        checkFace(lines);
        CHECK.finish();
    }

    private static void checkExamples(List<String> lines) throws ReflectiveOperationException {
        boolean inExample = false;
        int calls = 0;
        TailMerger x = null;
        for (int index = 0; index < lines.size(); index++) {
            String line = lines.get(index);
            if (line.startsWith("```")) {
                inExample = line.equals("```java");
            } else if (inExample && line.equals(NEW)) {
                x = new TailMerger();
            } else if (inExample) {
                checkCall("README.md:" + (index + 1), line, x);
                calls++;
            }
        }
        CHECK.holds("README.md has examples", calls > 0);
    }

    private static void checkCall(String place, String line, TailMerger x) throws ReflectiveOperationException {
        Matcher call = CALL.matcher(line);
        boolean readable = call.matches() && x != null;
        CHECK.holds(place + " is a call with its answer: " + line, readable);
        if (readable) {
            CHECK.due(place + " " + call.group(1) + "(" + call.group(2) + ")",
                    ask(x, call.group(1), call.group(2)), Integer.parseInt(call.group(3)));
        }
    }

    private static int ask(TailMerger x, String name, String arguments) throws ReflectiveOperationException {
        String[] words = arguments.isEmpty() ? new String[0] : arguments.split(", ");
        Class<?>[] types = new Class<?>[words.length];
        Arrays.fill(types, int.class);
        Object[] values = new Object[words.length];
        for (int index = 0; index < words.length; index++) {
            values[index] = number(words[index]);
        }
        return (Integer) TailMerger.class.getMethod(name, types).invoke(x, values);
    }

    private static int number(String word) throws ReflectiveOperationException {
        String prefix = "TailMerger.";
        return word.startsWith(prefix)
                ? TailMerger.class.getField(word.substring(prefix.length())).getInt(null)
                : Integer.parseInt(word);
    }

    private static void checkFace(List<String> lines) throws IllegalAccessException {
        String text = String.join("\n", lines);
        for (Method method : TailMerger.class.getDeclaredMethods()) {
            if (Modifier.isPublic(method.getModifiers())) {
                CHECK.holds("README.md names " + method.getName(), text.contains("`" + method.getName() + "`"));
            }
        }
        for (Field field : TailMerger.class.getFields()) {
            int value = field.getInt(null);
            if (value < 0) {
                CHECK.holds("README.md has the number of " + field.getName(),
                        text.contains("| `" + field.getName() + "` | " + value + " |"));
            }
        }
    }
}
