import java.io.IOException;
import java.lang.reflect.Constructor;
import java.lang.reflect.Field;
import java.lang.reflect.Method;
import java.lang.reflect.Modifier;
import java.nio.file.Files;
import java.nio.file.Path;
import java.util.ArrayList;
import java.util.List;
import java.util.Set;
import java.util.TreeSet;
import java.util.regex.Matcher;
import java.util.regex.Pattern;

/** The class keeps to the part of Java that it may use, as far as its text and its members show. */
public final class LanguageTest {
    private static final Path SOURCE = Path.of("src/main/java/RowLineage.java");
    private static final Set<String> LIBRARY = Set.of("Integer.bitCount", "Long.bitCount", "Math.min", "Math.max",
        "System.arraycopy");
    private static final Set<String> THROWN = Set.of("IndexOutOfBoundsException", "IllegalArgumentException");
    private static final String[] RULED_OUT = {"import", "package", "try", "catch", "finally", "assert",
        "synchronized", "default\\s+\\w+\\s+\\w+\\s*\\(", "->", "::", "static\\s*\\{", "equals", "hashCode",
        "toString", "var", "double", "float"};
    private static final int MOST_PARAMETERS = 7;
    private static final int MOST_LINES = 60;
    private static final int MOST_CLASSES = 12;
    private static final int MOST_FIELDS = 20;

    private static final Checks CHECKS = new Checks("LanguageTest");

    public static void main(String[] args) throws IOException {
        String written = Files.readString(SOURCE);
        String code = withoutCommentsAndTexts(written);
        List<Class<?>> classes = new ArrayList<>(List.of(RowLineage.class));
        classes.addAll(List.of(RowLineage.class.getDeclaredClasses()));
        rule4LibraryIsListed(code, classes);
        rules2And6And10NothingRuledOut(code);
        rule6OnlyListedExceptions(code);
        rule11MethodsAreShort(written);
        CHECKS.due("11 classes", classes.size() <= MOST_CLASSES, true);
        for (Class<?> one : classes) {
            rule5StaticsAreConstants(one);
            rule11FewFieldsAndParameters(one);
            rule12ConstructorsGetNumbersAlone(one);
        }
        CHECKS.end();
    }

    private static String withoutCommentsAndTexts(String written) {
        return written.replaceAll("(?s)/\\*.*?\\*/", " ").replaceAll("//[^\n]*", " ")
            .replaceAll("\"[^\"\n]*\"", "\"\"");
    }

    private static void rule4LibraryIsListed(String code, List<Class<?>> classes) {
        Set<String> own = new TreeSet<>();
        for (Class<?> one : classes) {
            own.add(one.getSimpleName());
        }
        Matcher used = Pattern.compile("\\b([A-Z]\\w*[a-z]\\w*)(\\s*\\.\\s*\\w+)?").matcher(code);
        while (used.find()) {
            String name = used.group().replaceAll("\\s", "");
            boolean isFine = own.contains(name) || LIBRARY.contains(name) || THROWN.contains(name);
            CHECKS.due("4 " + name + " may be used", isFine, true);
        }
    }

    private static void rules2And6And10NothingRuledOut(String code) {
        for (String word : RULED_OUT) {
            String whole = Character.isLetter(word.charAt(0)) ? "\\b" + word + (word.endsWith("(") ? "" : "\\b") : word;
            CHECKS.due("2, 6, 10 has " + word, Pattern.compile(whole).matcher(code).find(), false);
        }
    }

    private static void rule6OnlyListedExceptions(String code) {
        Matcher thrown = Pattern.compile("\\bthrow\\b([^;]*);").matcher(code);
        while (thrown.find()) {
            Matcher made = Pattern.compile("\\s+new (\\w+)\\((\"\")?\\)").matcher(thrown.group(1));
            CHECKS.due("6 throw" + thrown.group(1), made.matches() && THROWN.contains(made.group(1)), true);
        }
    }

    /** A method ends at the first closing brace that stands as far to the right as its first line. */
    private static void rule11MethodsAreShort(String written) {
        Matcher method = Pattern.compile("(?m)^( +)(?:public|private)[^;={]*\\([^;={]*\\{\n(?s:.*?)^\\1\\}")
            .matcher(written);
        int methods = 0;
        while (method.find()) {
            methods++;
            String text = method.group();
            CHECKS.due("11 is short: " + text.substring(0, text.indexOf('\n')).trim(),
                text.lines().count() <= MOST_LINES, true);
        }
        CHECKS.due("11 more methods than the face has", methods > 25, true);
    }

    private static void rule5StaticsAreConstants(Class<?> one) {
        for (Field field : one.getDeclaredFields()) {
            if (Modifier.isStatic(field.getModifiers())) {
                boolean isConstant = Modifier.isFinal(field.getModifiers()) && field.getType() == int.class;
                CHECKS.due("5 " + field + " is a constant", isConstant, true);
            }
        }
    }

    private static void rule11FewFieldsAndParameters(Class<?> one) {
        int fields = 0;
        for (Field field : one.getDeclaredFields()) {
            fields += Modifier.isStatic(field.getModifiers()) ? 0 : 1;
        }
        CHECKS.due("11 fields of " + one, fields <= MOST_FIELDS, true);
        for (Method method : one.getDeclaredMethods()) {
            CHECKS.due("11 parameters of " + method, method.getParameterCount() <= MOST_PARAMETERS, true);
        }
    }

    /** What a constructor makes is not handed on to other constructors. */
    private static void rule12ConstructorsGetNumbersAlone(Class<?> one) {
        for (Constructor<?> constructor : one.getDeclaredConstructors()) {
            for (Class<?> type : constructor.getParameterTypes()) {
                CHECKS.due("12 " + constructor + " gets " + type, type.isPrimitive(), true);
            }
        }
    }

    private LanguageTest() {
    }
}
