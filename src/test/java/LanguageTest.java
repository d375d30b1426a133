import java.io.IOException;
import java.lang.reflect.Constructor;
import java.lang.reflect.Field;
import java.lang.reflect.Method;
import java.lang.reflect.Modifier;
import java.nio.file.Files;
import java.nio.file.Path;
import java.util.List;
import java.util.Set;
import java.util.regex.Pattern;

/** What can be seen of LANGUAGE.md's rules by reflection and in the text of the class. */
public final class LanguageTest {
    private static final Path SOURCE = Path.of("src/main/java/TreeCarrier.java");

    // The class uses no library and throws nothing, so none of these has a place in it.
    private static final Pattern FORBIDDEN = Pattern.compile(
            "\\b(package|import|throw|throws|try|catch|finally|synchronized|assert|volatile|native"
            + "|java|System|Math|Integer|Long|Arrays|List|ArrayList|String|StringBuilder|var)\\b"
            + "|->|::|@|\\bstatic \\{");

    private static final int CLASS_LIMIT = 12;
    private static final int FIELD_LIMIT = 20;
    private static final int PARAMETER_LIMIT = 7;

    // LANGUAGE.md's types, but for the texts and the lists, which the class does not need.
    private static final Set<Class<?>> NUMBERS = Set.of(int.class, long.class, boolean.class);

    public static void main(String[] args) throws IOException {
        Class<?>[] inside = TreeCarrier.class.getDeclaredClasses();
        Check.due("at most twelve classes", 1 + inside.length <= CLASS_LIMIT, true);
        looksRight(TreeCarrier.class);
        for (Class<?> one : inside) {
            int modifiers = one.getModifiers();
            Check.due(one + " static", Modifier.isStatic(modifiers), true);
            Check.due(one + " private", Modifier.isPrivate(modifiers), true);
            looksRight(one);
        }
        text(Files.readAllLines(SOURCE));
        Check.finish();
    }

    private static void looksRight(Class<?> one) {
        int own = 0;
        for (Field field : one.getDeclaredFields()) {
            Check.due(field + " of a type of the rules", isAllowed(field.getType()), true);
            if (!Modifier.isStatic(field.getModifiers())) {
                own++;
            } else {
                Check.due(field + " final", Modifier.isFinal(field.getModifiers()), true);
                Check.due(field + " a number", NUMBERS.contains(field.getType()), true);
            }
        }
        Check.due(one + " at most twenty fields", own <= FIELD_LIMIT, true);
        for (Method method : one.getDeclaredMethods()) {
            Check.due(method + " at most seven parameters",
                    method.getParameterCount() <= PARAMETER_LIMIT, true);
        }
        for (Constructor<?> constructor : one.getDeclaredConstructors()) {
            Check.due(constructor + " without parameters", constructor.getParameterCount(), 0);
        }
    }

    private static boolean isAllowed(Class<?> type) {
        Class<?> part = type.isArray() ? type.getComponentType() : type;
        return NUMBERS.contains(part) || part.getName().startsWith("TreeCarrier$");
    }

    private static void text(List<String> lines) {
        for (int i = 0; i < lines.size(); i++) {
            String code = lines.get(i).strip();
            boolean comment = code.startsWith("//") || code.startsWith("*") || code.startsWith("/*");
            if (!comment && FORBIDDEN.matcher(code).find()) {
                Check.dueText("line " + (i + 1), code, "within the rules");
            }
        }
    }
}
