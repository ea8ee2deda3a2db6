import java.io.IOException;
import java.lang.reflect.Constructor;
import java.lang.reflect.Field;
import java.lang.reflect.Method;
import java.lang.reflect.Modifier;
import java.nio.file.Files;
import java.nio.file.Path;
import java.util.Arrays;
import java.util.Set;
import java.util.TreeSet;

/** Rules of LANGUAGE.md that can be looked at from outside: the face, static fields, and words that may not stand. */
public final class LanguageTest {
    private static final String[] FACE = {
        "boolean power(int, boolean)", "boolean identify(int, int)", "boolean input(int, int, int)",
        "boolean fail(int, int)", "boolean expect(int, int, int)", "boolean configure(int, int, int)",
        "boolean transfer(int, int, boolean, int)", "boolean sync(int)", "boolean inject(int, int, int, int)",
        "boolean disturb(int)", "int tick()", "int object(int, int)", "int state(int)", "int phase(int)",
        "int client(int)", "int text(int)", "int report(int)", "int bus(int, int)"
    };
    private static final String[] FORBIDDEN = {
        "import", "package", "->", "::", "throw", "try", "finally", "synchronized", "assert", "volatile", "System",
        "Thread", "Object", "hashCode", "toString", "protected", "var"
    };

    public static void main(String[] args) throws IOException {
        face();
        ownClasses();
        words();
        Check.end();
    }

    private static void face() {
        Class<?> type = FieldNet.class;
        Check.due("modifiers", Modifier.PUBLIC | Modifier.FINAL, type.getModifiers());
        Set<String> shown = new TreeSet<>();
        Set<String> names = new TreeSet<>();
        for (Method method : type.getDeclaredMethods()) {
            if (!Modifier.isPrivate(method.getModifiers())) {
                Check.due(method.getName(), Modifier.PUBLIC, method.getModifiers());
                shown.add(described(method));
                names.add(method.getName());
            }
        }
        Check.due("public methods", new TreeSet<>(Arrays.asList(FACE)), shown);
        for (Method method : type.getDeclaredMethods()) {
            boolean hidden = Modifier.isPrivate(method.getModifiers());
            Check.due("private " + method.getName(), false, hidden && names.contains(method.getName()));
        }
        Constructor<?>[] constructors = type.getDeclaredConstructors();
        Check.due("constructors", 1, constructors.length);
        Check.due("parameters", 0, constructors[0].getParameterCount());
        Check.due("modifiers", Modifier.PUBLIC, constructors[0].getModifiers());
    }

    private static String described(Method method) {
        StringBuilder all = new StringBuilder(method.getReturnType().getSimpleName());
        all.append(' ').append(method.getName()).append('(');
        for (Class<?> parameter : method.getParameterTypes()) {
            all.append(all.charAt(all.length() - 1) == '(' ? "" : ", ").append(parameter.getSimpleName());
        }
        return all.append(')').toString();
    }

    private static void ownClasses() {
        looked(FieldNet.class);
        Class<?>[] classes = FieldNet.class.getDeclaredClasses();
        Check.due("few classes", true, classes.length < 12);
        for (Class<?> type : classes) {
            Check.due(type + " is static", true, Modifier.isStatic(type.getModifiers()));
            Check.due(type + " is not public", false, Modifier.isPublic(type.getModifiers()));
            looked(type);
        }
    }

    private static void looked(Class<?> type) {
        int fields = 0;
        for (Field field : type.getDeclaredFields()) {
            Check.due(field + " is private", true, Modifier.isPrivate(field.getModifiers()));
            if (Modifier.isStatic(field.getModifiers())) {
                Check.due(field + " is final", true, Modifier.isFinal(field.getModifiers()));
                Check.due(field + " is a constant", int.class, field.getType());
            } else {
                fields++;
            }
        }
        Check.due(type + " has few fields", true, fields <= 20);
        for (Method method : type.getDeclaredMethods()) {
            Check.due(method + " has few parameters", true, method.getParameterCount() <= 7);
        }
    }

    private static void words() throws IOException {
        String source = Files.readString(Path.of("src/main/java/FieldNet.java"));
        String code = source.replaceAll("(?s)/\\*.*?\\*/", " ").replaceAll("//[^\n]*", " ");
        for (String word : FORBIDDEN) {
            String pattern = Character.isLetter(word.charAt(0)) ? "(?s).*\\b" + word + "\\b.*" : "(?s).*" + word + ".*";
            Check.due("stands there: " + word, false, code.matches(pattern));
        }
    }
}
