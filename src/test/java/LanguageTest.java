import java.io.IOException;
import java.nio.file.Files;
import java.nio.file.Path;
import java.util.regex.Matcher;
import java.util.regex.Pattern;

/** Words and signs that LANGUAGE.md rules out must not stand in the program. Run it from the project's folder. */
final class LanguageTest {
    private static final Path PROGRAM = Path.of("src", "main", "java", "SketchSpans.java");
    private static final String[] RULED_OUT = {
        "\\bthrows?\\b", "\\btry\\b", "\\bcatch\\b", "\\bsynchronized\\b", "\\bassert\\b", "\\bpackage\\b",
        "\\bprotected\\b", "\\bimport\\b", "->", "::", "Exact\\b", "\\bstatic\\s*\\{", "\\bThread\\b",
        "\\bSystem\\.(?!arraycopy)", "\\bObject\\b", "\\bvar\\b", "\\bequals\\b", "\\bhashCode\\b", "\\btoString\\b"};

    public static void main(String[] args) throws IOException {
        String code = Files.readString(PROGRAM)
                .replaceAll("(?s)/\\*.*?\\*/", " ")
                .replaceAll("//[^\n]*", " ");
        for (String pattern : RULED_OUT) {
            Matcher matcher = Pattern.compile(pattern).matcher(code);
            boolean found = matcher.find();
            Check.holds("no " + pattern + (found ? " (there is: " + matcher.group() + ")" : ""), !found);
        }
        nestedClassesAreStatic(code);
        Check.end();
    }

    private static void nestedClassesAreStatic(String code) {
        Matcher matcher = Pattern.compile("([a-z ]*)\\bclass (\\w+)").matcher(code);
        int classes = 0;
        while (matcher.find()) {
            classes++;
            boolean outer = matcher.group(2).equals("SketchSpans");
            Check.holds("class " + matcher.group(2) + " is static", outer || matcher.group(1).contains("static "));
        }
        Check.holds("at most twelve classes", classes <= 12);
    }
}
