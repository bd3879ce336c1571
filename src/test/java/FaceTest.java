import java.lang.reflect.Constructor;
import java.lang.reflect.Field;
import java.lang.reflect.Method;
import java.lang.reflect.Modifier;
import java.util.Set;
import java.util.TreeSet;

/** The face: the document's public members and no others. */
final class FaceTest {
    private static final Set<String> METHODS = Set.of(
            "sketch 3", "copy 1", "clear 1", "come 3", "merge 2", "hash 3", "low 2", "high 2",
            "has 2", "distinct 1", "quantile 2", "told 2", "kept 3", "count 0");
    private static final Set<String> CONSTANTS = Set.of("BAD -1", "NONE -2", "FULL -3");

    public static void main(String[] args) throws IllegalAccessException {
        Check.holds("the class is public and final",
                Modifier.isPublic(SketchSpans.class.getModifiers()) && Modifier.isFinal(SketchSpans.class.getModifiers()));
        constructors();
        methods();
        constants();
        Check.end();
    }

    private static void constructors() {
        Constructor<?>[] all = SketchSpans.class.getDeclaredConstructors();
        Check.due("constructors", all.length, 1);
        Check.holds("it is public and takes nothing",
                Modifier.isPublic(all[0].getModifiers()) && all[0].getParameterCount() == 0);
    }

    private static void methods() {
        Set<String> open = new TreeSet<>();
        Set<String> hidden = new TreeSet<>();
        for (Method method : SketchSpans.class.getDeclaredMethods()) {
            if (Modifier.isPrivate(method.getModifiers())) {
                hidden.add(method.getName());
                continue;
            }
            open.add(method.getName() + " " + method.getParameterCount());
            boolean ints = method.getReturnType() == int.class;
            for (Class<?> type : method.getParameterTypes()) {
                ints &= type == int.class;
            }
            Check.holds(method + " is public, of the object, over int",
                    ints && Modifier.isPublic(method.getModifiers()) && !Modifier.isStatic(method.getModifiers()));
        }
        Check.holds("methods are those of the document: " + open, open.equals(METHODS));
        for (String name : METHODS) {
            Check.holds("no private method is named " + name, !hidden.contains(name.split(" ")[0]));
        }
    }

    private static void constants() throws IllegalAccessException {
        Set<String> open = new TreeSet<>();
        for (Field field : SketchSpans.class.getDeclaredFields()) {
            int modifiers = field.getModifiers();
            if (Modifier.isStatic(modifiers)) {
                Check.holds(field + " is final", Modifier.isFinal(modifiers));
            }
            if (!Modifier.isPrivate(modifiers)) {
                Check.holds(field + " is public", Modifier.isPublic(modifiers));
                open.add(field.getName() + " " + field.getInt(null));
            }
        }
        Check.holds("constants are those of the document: " + open, open.equals(CONSTANTS));
    }
}
