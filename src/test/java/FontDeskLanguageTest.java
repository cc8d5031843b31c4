import java.io.IOException;
import java.lang.reflect.Executable;
import java.lang.reflect.Modifier;
import java.nio.file.Files;
import java.nio.file.Path;
import java.util.ArrayList;
import java.util.Arrays;
import java.util.List;
import java.util.Set;
import java.util.regex.Matcher;
import java.util.regex.Pattern;
import java.util.stream.Stream;

/** What of LANGUAGE.md can be read off the source: the library (3, 4), exceptions (2, 6), and sizes (11). */
public final class FontDeskLanguageTest {
    private static final Path SOURCE = Path.of("src", "main", "java", "FontDesk.java");
    private static final Set<String> LIBRARY = Set.of("String", "StringBuilder", "Integer", "Long", "Math", "Arrays", "List",
        "ArrayList", "IllegalStateException", "IllegalArgumentException", "IndexOutOfBoundsException",
        "ArithmeticException", "UnsupportedOperationException", "NoSuchElementException", "RuntimeException");
    private static final String THROW = "throw new (IllegalState|IllegalArgument|IndexOutOfBounds)Exception\\((\"\")?\\);";

    public static void main(String[] args) throws IOException {
        String source = Files.readString(SOURCE);
        // Texts are emptied and comments taken away: neither is code.
        String code = source.replaceAll("\"[^\"\n]*\"", "\"\"").replaceAll("(?s)/\\*.*?\\*/", "").replaceAll("//[^\n]*", "");
        none("imports beside java.util's", code, "(?m)^import (?!java\\.util\\.(Arrays|List|ArrayList);)");
        none("a package", code, "(?m)^package ");
        none("lambdas and method references", code, "->|::");
        none("words that are ruled out", code,
            "\\b(finally|synchronized|assert|volatile|native|transient|protected|getMessage|getClass|equals|hashCode)\\b");
        none("exact functions", code, "Exact\\b");
        none("System beside arraycopy", code, "\\bSystem\\.(?!arraycopy\\b)");
        none("static blocks", code, "\\bstatic\\s*\\{");
        none("throws of another form", code.replaceAll(THROW, ""), "\\bthrow\\b");
        none("loops without a bound", code, "while \\(true\\)|for \\(;;\\)");
        library(code);
        sizes();
        methodLengths(code);
        Due.end("FontDeskLanguageTest");
    }

    private static void none(String what, String code, String pattern) {
        Matcher m = Pattern.compile(pattern).matcher(code);
        Due.same(what + ":", 0, m.results().count());
    }

    private static List<Class<?>> classes() {
        return Stream.concat(Stream.<Class<?>>of(FontDesk.class), Arrays.stream(FontDesk.class.getDeclaredClasses())).toList();
    }

    private static void library(String code) {
        List<String> own = classes().stream().map(Class::getSimpleName).toList();
        Matcher m = Pattern.compile("\\b[A-Z]\\w*[a-z]\\w*\\b").matcher(code);
        while (m.find()) {
            Due.same(m.group() + " is own or the library's:", 1,
                own.contains(m.group()) || LIBRARY.contains(m.group()) ? 1 : 0);
        }
        none("functions of Math that are not listed", code, "\\bMath\\.(?!(max|min|abs|floorDiv|floorMod)\\b)");
        none("functions of Arrays that are not listed", code, "\\bArrays\\.(?!(copyOf|copyOfRange|fill)\\b)");
    }

    private static void sizes() {
        Due.same("at most twelve classes:", 1, classes().size() <= 12 ? 1 : 0);
        for (Class<?> c : classes()) {
            long fields = Arrays.stream(c.getDeclaredFields()).filter(f -> !Modifier.isStatic(f.getModifiers())).count();
            Due.same(c.getName() + " has at most twenty fields:", 1, fields <= 20 ? 1 : 0);
            List<Executable> all = new ArrayList<>(Arrays.asList(c.getDeclaredMethods()));
            all.addAll(Arrays.asList(c.getDeclaredConstructors()));
            for (Executable e : all) {
                Due.same(e + " takes at most seven:", 1, e.getParameterCount() <= 7 ? 1 : 0);
            }
        }
    }

    /** Methods begin one or two levels deep, and end with a brace as deep. */
    private static void methodLengths(String code) {
        String[] lines = code.split("\n", -1);
        int methods = 0;
        for (int k = 0; k < lines.length; k++) {
            String indent = lines[k].replaceFirst("\\S.*", "");
            boolean begins = (indent.length() == 4 || indent.length() == 8) && lines[k].matches(" +[\\w<>\\[\\] ]+\\(.*\\{");
            if (!begins || lines[k].matches(" +(if|for|while|switch|do|else)\\b.*")) {
                continue;
            }
            int end = k;
            while (!lines[end].equals(indent + "}")) {
                end++;
            }
            methods++;
            Due.same("line " + (k + 1) + ": a method of at most sixty lines:", 1, end - k < 60 ? 1 : 0);
        }
        Due.same("methods were found:", 1, methods > 50 ? 1 : 0);
    }
}
