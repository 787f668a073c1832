import java.io.IOException;
import java.lang.reflect.Method;
import java.lang.reflect.Modifier;
import java.net.URL;
import java.net.URLClassLoader;
import java.nio.file.DirectoryStream;
import java.nio.file.Files;
import java.nio.file.Path;
import java.util.ArrayList;
import java.util.List;
import java.util.regex.Matcher;
import java.util.regex.Pattern;
import javax.tools.ToolProvider;

/** What README.md says is so: its example compiles and answers as it says, its tests are there. */
public final class ReadmeTest {
    private static final Path README = Path.of("README.md");
    private static final Path TESTS = Path.of("src/test/java");

    /** A call with what it answers: "x.call(..);  // answer: and why". */
    private static final Pattern ANSWERED =
            Pattern.compile("(x\\.\\w+\\(.*\\));\\s*// (-?\\d+|true|false|throws \\w+): .*");

    private ReadmeTest() {
    }

    public static void main(String[] args) throws Exception {
        String readme = Files.readString(README);
        List<String> example = example(readme);
        exampleAnswersAsItSays(example);
        exampleShowsTheFace(example);
        namedTestsAreThere(readme);
        testsAreNamed(readme);
        Check.end();
    }

    private static List<String> example(String readme) {
        Matcher found = Pattern.compile("(?s)```java\\n(.*?)```").matcher(readme);
        List<String> lines = found.find() ? found.group(1).lines().toList() : List.of();
        Check.due("there is an example", lines.isEmpty(), false);
        Check.due("and one alone", found.find(), false);
        return lines;
    }

    private static void exampleAnswersAsItSays(List<String> example) throws Exception {
        Path room = Files.createTempDirectory("readme");
        Path source = room.resolve("Example.java");
        Files.writeString(source, program(example));
        int refused = ToolProvider.getSystemJavaCompiler().run(null, null, null, "--release", "17",
                "-cp", System.getProperty("java.class.path"), "-d", room.toString(), source.toString());
        Check.due("javac of the example", refused, 0);
        if (refused == 0) {
            compare(example, answers(room));
        }
        empty(room);
    }

    /** The example as it stands, which must compile, and once more with its answers gathered. */
    private static String program(List<String> example) {
        StringBuilder asked = new StringBuilder();
        for (String line : example) {
            Matcher call = ANSWERED.matcher(line);
            asked.append(call.matches() ? "told(got, () -> " + call.group(1) + ");" : line).append('\n');
        }
        return "import java.util.*;\n"
                + "import java.util.concurrent.Callable;\n"
                + "public final class Example {\n"
                + "static void asItStands() {\n" + String.join("\n", example) + "\n}\n"
                + "public static List<String> answers() {\n"
                + "List<String> got = new ArrayList<>();\n" + asked + "return got;\n}\n"
                + "static void told(List<String> got, Callable<Object> call) {\n"
                + "try { got.add(\"\" + call.call()); }\n"
                + "catch (Exception e) { got.add(\"throws \" + e.getClass().getSimpleName()); }\n}\n}\n";
    }

    private static List<String> answers(Path room) throws Exception {
        List<String> got = new ArrayList<>();
        try (URLClassLoader loader = new URLClassLoader(new URL[] {room.toUri().toURL()})) {
            Method answers = loader.loadClass("Example").getMethod("answers");
            for (Object answer : (List<?>) answers.invoke(null)) {
                got.add((String) answer);
            }
        }
        return got;
    }

    private static void compare(List<String> example, List<String> got) {
        int next = 0;
        for (String line : example) {
            Matcher call = ANSWERED.matcher(line);
            if (call.matches()) {
                String answer = got.get(next);
                next++;
                Check.due(line + " answered " + answer, answer.equals(call.group(2)), true);
            } else {
                // Only what answers nothing may stand without an answer.
                Check.due("an answer is told: " + line, line.matches("|DotGossip x = .*|x\\.(open|turn)\\(.*"), true);
            }
        }
    }

    private static void empty(Path room) throws IOException {
        try (DirectoryStream<Path> files = Files.newDirectoryStream(room)) {
            for (Path file : files) {
                Files.delete(file);
            }
        }
        Files.delete(room);
    }

    private static void exampleShowsTheFace(List<String> example) {
        String all = String.join("\n", example);
        for (Method method : DotGossip.class.getDeclaredMethods()) {
            if (Modifier.isPublic(method.getModifiers())) {
                Check.due("the example shows " + method.getName(), all.contains("x." + method.getName() + "("), true);
            }
        }
    }

    /** `SomeTest` or `SomeTest.method` in the text. */
    private static void namedTestsAreThere(String readme) throws IOException {
        Matcher named = Pattern.compile("`(\\w*Test|Check)(?:\\.(\\w+))?`").matcher(readme);
        while (named.find()) {
            Path file = TESTS.resolve(named.group(1) + ".java");
            boolean there = Files.exists(file) && (named.group(2) == null
                    || Files.readString(file).contains(" static void " + named.group(2) + "("));
            Check.due(named.group() + " is there", there, true);
        }
    }

    private static void testsAreNamed(String readme) throws IOException {
        try (DirectoryStream<Path> files = Files.newDirectoryStream(TESTS, "*Test.java")) {
            for (Path file : files) {
                String name = file.getFileName().toString().replace(".java", "");
                Check.due(name + " is in the table", readme.contains("\n| `" + name + "` |"), true);
            }
        }
    }
}
