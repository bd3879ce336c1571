import java.io.IOException;
import java.lang.reflect.Method;
import java.lang.reflect.Modifier;
import java.nio.file.Files;
import java.nio.file.Path;
import java.util.Arrays;
import java.util.Set;
import java.util.TreeSet;
import java.util.regex.Matcher;
import java.util.regex.Pattern;

/** The calls in README.md answer what stands behind them. Run it from the project's folder. */
final class ReadmeTest {
    private static final Pattern EXAMPLE = Pattern.compile("(?s)```java\n(.*?)```");
    private static final Pattern CALL = Pattern.compile("spans\\.(\\w+)\\(([-\\d, ]*)\\);\\s+// (-?\\d+)(:.*)?");

    public static void main(String[] args) throws IOException, ReflectiveOperationException {
        String text = Files.readString(Path.of("README.md"));
        Matcher example = EXAMPLE.matcher(text);
        Check.holds("README.md has an example", example.find());
        String[] lines = example.group(1).split("\n");
        Check.holds("it begins with a new object", lines[0].equals("SketchSpans spans = new SketchSpans();"));
        SketchSpans spans = new SketchSpans();
        for (int i = 1; i < lines.length; i++) {
            Matcher call = CALL.matcher(lines[i]);
            boolean readable = call.matches();
            Check.holds("a call and its answer: " + lines[i], readable);
            if (readable) {
                Check.due(lines[i], ask(spans, call.group(1), call.group(2)), Integer.parseInt(call.group(3)));
            }
        }
        namesEveryCall(text);
        Check.end();
    }

    private static int ask(SketchSpans spans, String name, String written) throws ReflectiveOperationException {
        String[] numbers = written.isBlank() ? new String[0] : written.split(", *");
        Class<?>[] types = new Class<?>[numbers.length];
        Arrays.fill(types, int.class);
        Object[] values = new Object[numbers.length];
        for (int i = 0; i < numbers.length; i++) {
            values[i] = Integer.valueOf(numbers[i]);
        }
        return (Integer) SketchSpans.class.getMethod(name, types).invoke(spans, values);
    }

    private static void namesEveryCall(String text) {
        Set<String> missing = new TreeSet<>();
        for (Method method : SketchSpans.class.getDeclaredMethods()) {
            boolean told = Pattern.compile("`" + method.getName() + "\\([a-z, ]*\\)`").matcher(text).find();
            if (Modifier.isPublic(method.getModifiers()) && !told) {
                missing.add(method.getName());
            }
        }
        Check.holds("README.md tells of all calls but " + missing, missing.isEmpty());
    }
}
