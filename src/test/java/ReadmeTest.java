import java.io.IOException;
import java.lang.reflect.Method;
import java.lang.reflect.Modifier;
import java.nio.file.Files;
import java.nio.file.Path;
import java.util.Set;
import java.util.TreeSet;
import java.util.regex.Matcher;
import java.util.regex.Pattern;

/** The examples of README.md: each line answers what stands behind it, and each call of the face is shown. */
public final class ReadmeTest {
    private static final Path README = Path.of("README.md");
    private static final Pattern BLOCK = Pattern.compile("(?s)```java\n(.*?)```");
    private static final Pattern NEW = Pattern.compile("DrawLooms looms = new DrawLooms\\(\\);.*");
    private static final Pattern CALL = Pattern.compile("looms\\.(\\w+)\\(([^)]*)\\);\\s+// (-?\\d+)(:.*)?");

    private final Due due = new Due();
    private final Set<String> shown = new TreeSet<>();

    private ReadmeTest() { }

    public static void main(String[] args) throws IOException {
        ReadmeTest test = new ReadmeTest();
        test.due.about("README.md");
        Matcher block = BLOCK.matcher(Files.readString(README));
        while (block.find()) {
            test.example(block.group(1).split("\n"));
        }
        test.allAreShown();
        test.due.finish();
    }

    private void example(String[] lines) {
        due.is("an example begins with a new object", NEW.matcher(lines[0]).matches() ? 1 : 0, 1);
        DrawLooms looms = new DrawLooms();
        for (int i = 1; i < lines.length; i++) {
            Matcher call = CALL.matcher(lines[i]);
            due.is("a call with its answer: " + lines[i], call.matches() ? 1 : 0, 1);
            if (call.matches()) {
                shown.add(call.group(1));
                int answer = Calls.answer(looms, call.group(1), numbers(call.group(2)));
                due.is(lines[i], answer, Integer.parseInt(call.group(3)));
            }
        }
    }

    private static int[] numbers(String arguments) {
        if (arguments.isEmpty()) {
            return new int[0];
        }
        String[] texts = arguments.split(", ");
        int[] numbers = new int[texts.length];
        for (int i = 0; i < texts.length; i++) {
            boolean isTruth = texts[i].equals("true") || texts[i].equals("false");
            numbers[i] = isTruth ? (texts[i].equals("true") ? 1 : 0) : Integer.parseInt(texts[i]);
        }
        return numbers;
    }

    private void allAreShown() {
        for (Method method : DrawLooms.class.getDeclaredMethods()) {
            if (Modifier.isPublic(method.getModifiers())) {
                due.is(method.getName() + " is shown", shown.contains(method.getName()) ? 1 : 0, 1);
            }
        }
    }
}
