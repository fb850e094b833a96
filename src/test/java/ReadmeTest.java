import java.io.IOException;
import java.lang.reflect.InvocationTargetException;
import java.lang.reflect.Method;
import java.nio.file.Files;
import java.nio.file.Path;
import java.util.Arrays;
import java.util.HashMap;
import java.util.Map;
import java.util.regex.Matcher;
import java.util.regex.Pattern;

/** The example in README.md: each of its calls is made, and must answer what stands behind it. */
public final class ReadmeTest {
    private static final Pattern MAKING = Pattern.compile("int (\\w+) = desk\\.(make)\\(([^()]*)\\); +// .+");
    private static final Pattern ASKING = Pattern.compile("desk\\.(\\w+)\\(([^()]*)\\); +// (throws )?([\\w.]+).*");
    private static final int LEAST_ANSWERS = 12;

    private final Checks checks = new Checks();
    private final MarkDesk desk = new MarkDesk();
    private final Map<String, Integer> named = new HashMap<>();
    private int asked;

    private ReadmeTest() {
    }

    public static void main(String[] args) throws IOException, ReflectiveOperationException {
        ReadmeTest test = new ReadmeTest();
        String text = Files.readString(Path.of("README.md"));
        String example = text.substring(text.indexOf("```java") + 7);
        for (String line : example.substring(0, example.indexOf("```")).split("\n")) {
            test.follow(line);
        }
        test.checks.due("the example asks enough", test.asked >= LEAST_ANSWERS ? 1 : 0, 1);
        test.checks.end("ReadmeTest");
    }

    private void follow(String line) throws ReflectiveOperationException {
        Matcher making = MAKING.matcher(line);
        Matcher asking = ASKING.matcher(line);
        if (making.matches()) {
            named.put(making.group(1), Integer.valueOf(answerOf(making.group(2), making.group(3))));
        } else if (asking.matches()) {
            asked++;
            checks.dueText(line, answerOf(asking.group(1), asking.group(2)), dueText(asking.group(4)));
        } else if (!line.isBlank()) {
            checks.dueText("a line that is no call", line, "MarkDesk desk = new MarkDesk();");
        }
    }

    /** What the call answers, or the name of what it throws. */
    private String answerOf(String name, String words) throws ReflectiveOperationException {
        Object[] arguments = words.isBlank() ? new Object[0]
                : Arrays.stream(words.split(", ")).map(this::number).toArray();
        Class<?>[] types = new Class<?>[arguments.length];
        Arrays.fill(types, int.class);
        Method method = MarkDesk.class.getMethod(name, types);
        try {
            return String.valueOf(method.invoke(desk, arguments));
        } catch (InvocationTargetException e) {
            return e.getCause().getClass().getSimpleName();
        }
    }

    private Integer number(String word) {
        return named.containsKey(word) ? named.get(word) : Integer.valueOf(word);
    }

    private static String dueText(String written) throws ReflectiveOperationException {
        if (written.startsWith("MarkDesk.")) {
            return String.valueOf(MarkDesk.class.getField(written.substring("MarkDesk.".length())).getInt(null));
        }
        return written;
    }
}
