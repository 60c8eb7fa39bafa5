import java.io.IOException;
import java.lang.reflect.Executable;
import java.lang.reflect.Field;
import java.lang.reflect.Modifier;
import java.nio.file.Files;
import java.nio.file.Path;
import java.util.ArrayList;
import java.util.List;
import java.util.Set;
import java.util.TreeSet;
import java.util.regex.Matcher;
import java.util.regex.Pattern;
import java.util.stream.Stream;

/** LANGUAGE.md, as far as words of the source and reflection show it. The face (rule 1) is in FaceTest. */
public final class LanguageTest {
    private static final Path SOURCE = Path.of("src/main/java/TapTerminal.java");
    private static final Set<String> LIBRARY = Set.of("Math.min");

    public static void main(String[] args) throws IOException {
        String code = withoutComments(Files.readString(SOURCE));
        oneFile();
        noWordThatIsRuledOut(code);
        onlyTheLibraryThatIsListed(code);
        noTexts(code);
        methodsAreShort(code.split("\n"));
        classesAreSmall();
        Check.done();
    }

    private static String withoutComments(String source) {
        return source.replaceAll("(?s)/\\*.*?\\*/", "").replaceAll("//[^\n]*", "");
    }

    private static void oneFile() throws IOException {
        try (Stream<Path> files = Files.walk(Path.of("src/main"))) {
            Check.due("files", files.filter(Files::isRegularFile).toList().toString(), List.of(SOURCE).toString());
        }
    }

    /** Rules 2, 6 and 13. */
    private static void noWordThatIsRuledOut(String code) {
        for (String word : List.of("package", "import", "throw", "throws", "try", "catch", "finally", "synchronized", "assert",
                "native", "volatile", "protected", "equals", "hashCode", "toString", "instanceof", "System", "Object")) {
            Check.due("the word " + word, Pattern.compile("\\b" + word + "\\b").matcher(code).find(), false);
        }
        Check.due("lambdas", code.contains("->"), false);
        Check.due("method references", code.contains("::"), false);
        Check.due("arrays of two dimensions", code.contains("[]["), false);
    }

    /** Rules 3 and 4: each name with a small letter behind its first, great one is an own class or from the list. */
    private static void onlyTheLibraryThatIsListed(String code) {
        Set<String> own = new TreeSet<>(Set.of("TapTerminal"));
        for (Class<?> inside : TapTerminal.class.getDeclaredClasses()) {
            own.add(inside.getSimpleName());
        }
        Matcher names = Pattern.compile("\\b[A-Z]+[a-z]\\w*(\\.\\w+)?").matcher(code);
        Set<String> foreign = new TreeSet<>();
        while (names.find()) {
            if (!own.contains(names.group().split("\\.")[0]) && !LIBRARY.contains(names.group())) {
                foreign.add(names.group());
            }
        }
        Check.due("names from outside", foreign.toString(), "[]");
    }

    private static void noTexts(String code) {
        Check.due("texts and characters", code.contains("\"") || code.contains("'"), false);
    }

    /** Rule 11: a method begins where a line at a member's depth ends with ") {" and is no statement. */
    private static void methodsAreShort(String[] lines) {
        Pattern head = Pattern.compile("( {4}| {8})(?!if|for|while|switch|return|\\})\\w.*\\) \\{");
        int methods = 0;
        for (int i = 0; i < lines.length; i++) {
            Matcher found = head.matcher(lines[i]);
            if (found.matches()) {
                methods++;
                Check.due("short enough: " + lines[i].trim(), endOf(lines, i, found.group(1) + "}") - i <= 60, true);
            }
        }
        Check.due("methods found", methods, countOfMethods());
    }

    private static int endOf(String[] lines, int from, String end) {
        int i = from;
        while (i < lines.length && !lines[i].equals(end)) {
            i++;
        }
        return i;
    }

    private static List<Class<?>> classes() {
        List<Class<?>> all = new ArrayList<>(List.of(TapTerminal.class));
        all.addAll(List.of(TapTerminal.class.getDeclaredClasses()));
        return all;
    }

    private static List<Executable> methodsOf(Class<?> one) {
        List<Executable> all = new ArrayList<>(List.of(one.getDeclaredMethods()));
        all.addAll(List.of(one.getDeclaredConstructors()));
        all.removeIf(Executable::isSynthetic);
        return all;
    }

    private static int countOfMethods() {
        return classes().stream().mapToInt(one -> methodsOf(one).size()).sum();
    }

    /** Rule 11. */
    private static void classesAreSmall() {
        Check.due("few classes", classes().size() <= 12, true);
        for (Class<?> one : classes()) {
            int fields = 0;
            for (Field field : one.getDeclaredFields()) {
                fields += Modifier.isStatic(field.getModifiers()) ? 0 : 1;
            }
            Check.due("few fields in " + one.getName(), fields <= 20, true);
            for (Executable method : methodsOf(one)) {
                Check.due("few parameters: " + method, method.getParameterCount() <= 7, true);
            }
        }
    }
}
