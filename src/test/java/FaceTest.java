import java.lang.reflect.Constructor;
import java.lang.reflect.Field;
import java.lang.reflect.Method;
import java.lang.reflect.Modifier;
import java.util.TreeSet;

/** The public face of the document, and nothing beside it (rule 1 of the language). */
public final class FaceTest {
    private static final String[] METHODS = {
        "boolean rule(boolean,int,int)", "boolean put(int,int,int)", "boolean set(int,int,int,int)",
        "boolean remove(int,int)", "boolean begin(int,boolean)", "int deliver(int)",
        "boolean crash()", "boolean on()", "int size(int,int)", "int at(int,int,int)",
        "int time(int,int)", "boolean selected(int)", "int waiting(int)", "int next(int)",
        "int journal()", "int count(int)"};

    public static void main(String[] args) {
        int modifiers = TreeCarrier.class.getModifiers();
        Check.due("public class", Modifier.isPublic(modifiers), true);
        Check.due("final class", Modifier.isFinal(modifiers), true);
        methods();
        constructors();
        fields();
        Check.finish();
    }

    private static void methods() {
        TreeSet<String> want = new TreeSet<>();
        TreeSet<String> names = new TreeSet<>();
        for (String method : METHODS) {
            want.add(method);
            names.add(method.substring(method.indexOf(' ') + 1, method.indexOf('(')));
        }
        TreeSet<String> got = new TreeSet<>();
        for (Method method : TreeCarrier.class.getDeclaredMethods()) {
            if (Modifier.isPrivate(method.getModifiers())) {
                Check.due("private " + method.getName(), names.contains(method.getName()), false);
            } else {
                Check.due(method + " public", Modifier.isPublic(method.getModifiers()), true);
                got.add(written(method));
            }
        }
        Check.dueText("the face", got.toString(), want.toString());
    }

    private static String written(Method method) {
        StringBuilder text = new StringBuilder();
        text.append(method.getReturnType().getName()).append(' ').append(method.getName());
        String comma = "(";
        for (Class<?> type : method.getParameterTypes()) {
            text.append(comma).append(type.getName());
            comma = ",";
        }
        return text.append(comma.equals("(") ? "()" : ")").toString();
    }

    private static void constructors() {
        Constructor<?>[] all = TreeCarrier.class.getDeclaredConstructors();
        Check.due("constructors", all.length, 1);
        Check.due("public constructor", Modifier.isPublic(all[0].getModifiers()), true);
        Check.due("constructor's parameters", all[0].getParameterCount(), 0);
    }

    private static void fields() {
        for (Field field : TreeCarrier.class.getDeclaredFields()) {
            int modifiers = field.getModifiers();
            Check.due("private " + field.getName(), Modifier.isPrivate(modifiers), true);
            if (Modifier.isStatic(modifiers)) {
                Check.due("final " + field.getName(), Modifier.isFinal(modifiers), true);
            }
        }
    }
}
