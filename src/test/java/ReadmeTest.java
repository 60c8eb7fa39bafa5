import java.io.IOException;
import java.lang.reflect.Method;
import java.lang.reflect.Modifier;
import java.net.URISyntaxException;
import java.nio.file.Files;
import java.nio.file.Path;
import java.util.List;
import java.util.regex.Matcher;
import java.util.regex.Pattern;
import javax.tools.ToolProvider;

/**
 * README.md's example as it stands there: each line that calls the class is made to look whether the call answers what
 * stands behind it, up to the first colon, and the whole is compiled and run.
 */
public final class ReadmeTest {
    private static final Pattern CALL = Pattern.compile("\\bt\\.(\\w+)\\(");
    private static final Pattern CALL_WITH_ANSWER =
            Pattern.compile("\\s*(?:(int|boolean) (\\w+) = )?(t\\.\\w+\\(.*\\));\\s*// (.+?)(?:: .*)?");
    private static final String EXAMPLE = "ReadmeExample";

    public static void main(String[] args) throws IOException, URISyntaxException, ReflectiveOperationException {
        List<String> lines = exampleOf(Files.readAllLines(Path.of("README.md")));
        everyCallHasAnAnswer(lines);
        everyMethodIsUsed(lines);
        Path classes = Path.of(ReadmeTest.class.getProtectionDomain().getCodeSource().getLocation().toURI());
        if (isCompiled(lines, classes)) {
            Class.forName(EXAMPLE).getMethod("main").invoke(null);
        }
        Check.done();
    }

    private static List<String> exampleOf(List<String> readme) {
        List<String> behind = readme.subList(readme.indexOf("```java") + 1, readme.size());
        return behind.subList(0, behind.indexOf("```"));
    }

    private static void everyCallHasAnAnswer(List<String> lines) {
        for (String line : lines) {
            boolean due = CALL.matcher(line).find();
            Check.due("an answer behind: " + line, CALL_WITH_ANSWER.matcher(line).matches(), due);
        }
    }

    private static void everyMethodIsUsed(List<String> lines) {
        String text = String.join("\n", lines);
        for (Method method : TapTerminal.class.getDeclaredMethods()) {
            if (Modifier.isPublic(method.getModifiers())) {
                Check.due("the example has " + method.getName(), text.contains("t." + method.getName() + "("), true);
            }
        }
    }

    /** It goes where the test's own classes are, so that it finds them and is found. */
    private static boolean isCompiled(List<String> lines, Path classes) throws IOException {
        StringBuilder text = new StringBuilder("public final class " + EXAMPLE + " {\n    public static void main() {\n");
        for (String line : lines) {
            text.append(withCheck(line)).append('\n');
        }
        text.append("    }\n}\n");
        Path source = classes.resolve(EXAMPLE + ".java");
        Files.writeString(source, text);
        String[] options = {"-encoding", "UTF-8", "-cp", classes.toString(), "-d", classes.toString(), source.toString()};
        int result = ToolProvider.getSystemJavaCompiler().run(null, null, null, options);
        Check.due("compiling the example", result, 0);
        return result == 0;
    }

    private static String withCheck(String line) {
        Matcher parts = CALL_WITH_ANSWER.matcher(line);
        if (!parts.matches()) {
            return line;
        }
        String call = parts.group(3);
        String label = call.replace("\\", "\\\\").replace("\"", "\\\"");
        if (parts.group(2) == null) {
            return "Check.due(\"" + label + "\", " + call + ", " + parts.group(4) + ");";
        }
        String declared = parts.group(1) + " " + parts.group(2) + " = " + call + ";";
        return declared + " Check.due(\"" + label + "\", " + parts.group(2) + ", " + parts.group(4) + ");";
    }
}
