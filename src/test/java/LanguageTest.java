import java.io.IOException;
import java.lang.reflect.Field;
import java.lang.reflect.Method;
import java.lang.reflect.Modifier;
import java.nio.file.Files;
import java.nio.file.Path;
import java.util.ArrayList;
import java.util.List;
import java.util.Set;
import java.util.TreeSet;
import java.util.regex.Matcher;
import java.util.regex.Pattern;

/** What of LANGUAGE.md can be read off the program's text and classes without doubt. */
public final class LanguageTest {
    private static final Path PROGRAM = Path.of("src/main/java/DotGossip.java");

    private static final Set<String> IMPORTS = Set.of("java.util.ArrayList", "java.util.List", "java.util.Arrays",
            "java.util.Iterator", "java.util.NoSuchElementException");

    /** What no rule leaves, and the rule that takes it away. */
    private static final String[][] TAKEN_AWAY = {
        {"without a package line", "(?m)^\\s*package\\s"},
        {"2", "(?m)^(?!\\s*(?:case|default)\\b).*->"},
        {"2", "::"},
        {"4", "\\bSystem\\.(?!arraycopy\\()"},
        {"4", "\\bArrays\\.(?!(?:copyOf|copyOfRange|fill)\\()"},
        {"4", "Exact\\("},
        {"5", "\\bstatic\\s*\\{"},
        {"6", "\\b(?:finally|synchronized|assert|getMessage|printStackTrace)\\b"},
        {"6", "\\bextends\\s+\\w*(?:Exception|Error|Throwable)\\b"},
        {"6", "\\bthrow\\s+(?!new\\s+(?:IllegalStateException|IllegalArgumentException|IndexOutOfBoundsException"
                + "|ArithmeticException|UnsupportedOperationException|NoSuchElementException|RuntimeException)\\()"},
        {"13", "\\b(?:Thread|Math\\.random|currentTimeMillis|nanoTime|getenv|getProperty)\\b"},
    };

    private LanguageTest() {
    }

    public static void main(String[] args) throws IOException {
        String code = withoutComments(Files.readString(PROGRAM));
        importsAreListed(code);
        for (String[] rule : TAKEN_AWAY) {
            Matcher found = Pattern.compile(rule[1]).matcher(code);
            boolean any = found.find();
            Check.due("rule " + rule[0] + ": " + (any ? found.group() : ""), any, false);
        }
        for (Class<?> one : classes()) {
            staticFieldsAreFinal(one);
            methodsTakeSeven(one);
        }
        Check.end();
    }

    private static String withoutComments(String text) {
        return text.replaceAll("(?s)/\\*.*?\\*/", "").replaceAll("//[^\n]*", "");
    }

    private static void importsAreListed(String code) {
        Matcher found = Pattern.compile("(?m)^import\\s+([^;]+);").matcher(code);
        Set<String> other = new TreeSet<>();
        while (found.find()) {
            if (!IMPORTS.contains(found.group(1))) {
                other.add(found.group(1));
            }
        }
        Check.due("rule 4: imports beside the listed ones " + other, other.size(), 0);
    }

    private static List<Class<?>> classes() {
        List<Class<?>> all = new ArrayList<>();
        all.add(DotGossip.class);
        for (int k = 0; k < all.size(); k++) {
            all.addAll(List.of(all.get(k).getDeclaredClasses()));
        }
        return all;
    }

    private static void staticFieldsAreFinal(Class<?> one) {
        for (Field field : one.getDeclaredFields()) {
            boolean loose = Modifier.isStatic(field.getModifiers()) && !Modifier.isFinal(field.getModifiers());
            Check.due("rule 5: " + field + " is static and not final", loose, false);
        }
    }

    private static void methodsTakeSeven(Class<?> one) {
        for (Method method : one.getDeclaredMethods()) {
            Check.due("rule 11: parameters of " + method, method.getParameterCount() <= 7, true);
        }
    }
}
