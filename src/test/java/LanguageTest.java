import java.io.IOException;
import java.lang.reflect.Field;
import java.lang.reflect.Method;
import java.lang.reflect.Modifier;
import java.nio.file.Files;
import java.nio.file.Path;
import java.util.List;
import java.util.regex.Matcher;
import java.util.regex.Pattern;

/** What LANGUAGE.md rules out must not stand in the program. Run it from the project's folder. */
final class LanguageTest {
    private static final Path PROGRAM = Path.of("src", "main", "java", "SketchSpans.java");
    private static final int MOST_CLASSES = 12;
    private static final int MOST_FIELDS = 20;
    private static final int MOST_PARAMETERS = 7;
    private static final int MOST_LINES = 60;
    private static final String[] RULED_OUT = {
        "\\bthrows?\\b", "\\btry\\b", "\\bcatch\\b", "\\bsynchronized\\b", "\\bassert\\b", "\\bpackage\\b",
        "\\bprotected\\b", "\\bimport\\b", "->", "::", "Exact\\b", "\\bstatic\\s*\\{", "\\bThread\\b",
        "\\bSystem\\.(?!arraycopy)", "\\bObject\\b", "\\bvar\\b", "\\bequals\\b", "\\bhashCode\\b", "\\btoString\\b"};

    public static void main(String[] args) throws IOException {
        String text = Files.readString(PROGRAM);
        String code = text.replaceAll("(?s)/\\*.*?\\*/", " ").replaceAll("//[^\n]*", " ");
        for (String pattern : RULED_OUT) {
            Matcher matcher = Pattern.compile(pattern).matcher(code);
            boolean found = matcher.find();
            Check.holds("no " + pattern + (found ? " (there is: " + matcher.group() + ")" : ""), !found);
        }
        Class<?>[] inside = SketchSpans.class.getDeclaredClasses();
        Check.holds("at most twelve classes", inside.length + 1 <= MOST_CLASSES);
        for (Class<?> one : inside) {
            int modifiers = one.getModifiers();
            Check.holds(one + " is static and not open",
                    Modifier.isStatic(modifiers) && !Modifier.isPublic(modifiers) && !Modifier.isProtected(modifiers));
            membersOf(one);
        }
        membersOf(SketchSpans.class);
        methodsAreShort(text.lines().toList());
        Check.end();
    }

    /** Rules 5 and 11. */
    private static void membersOf(Class<?> one) {
        Check.due(one + " has classes inside", one == SketchSpans.class ? 0 : one.getDeclaredClasses().length, 0);
        int fields = 0;
        for (Field field : one.getDeclaredFields()) {
            boolean ofTheClass = Modifier.isStatic(field.getModifiers());
            Check.holds(field + " is final", !ofTheClass || Modifier.isFinal(field.getModifiers()));
            fields += ofTheClass ? 0 : 1;
        }
        Check.holds(one + " has few fields", fields <= MOST_FIELDS);
        for (Method method : one.getDeclaredMethods()) {
            Check.holds(method + " takes few parameters", method.getParameterCount() <= MOST_PARAMETERS);
        }
    }

    /** Rule 11: from a line that opens a method to the brace that stands as far from the edge. */
    private static void methodsAreShort(List<String> lines) {
        Pattern opening = Pattern.compile("( {4}| {8})\\w.*\\) \\{");
        int methods = 0;
        for (int first = 0; first < lines.size(); first++) {
            Matcher matcher = opening.matcher(lines.get(first));
            if (matcher.matches() && !lines.get(first).matches(" +(if|for|while|switch) .*")) {
                int length = lines.subList(first, lines.size()).indexOf(matcher.group(1) + "}");
                Check.holds(lines.get(first).strip() + " has " + length + " lines", length > 0 && length <= MOST_LINES);
                methods++;
            }
        }
        Check.holds("methods were found", methods > 14);
    }
}
