import java.io.IOException;
import java.lang.reflect.Method;
import java.lang.reflect.Modifier;
import java.nio.file.Files;
import java.nio.file.Path;
import java.util.Arrays;
import java.util.Set;
import java.util.TreeSet;
import java.util.stream.Collectors;
import java.util.stream.Stream;

/**
 * The face is the one that the document writes out and nothing more (rule 1 of LANGUAGE.md), and static state is
 * constant (rule 5).
 */
public final class FontDeskFaceTest {
    private static final Path DOCUMENT = Path.of("..", "shared", "DOC.md");
    private static final Set<String> FACE = new TreeSet<>(Set.of(
        "NONE = -1",
        "FontDesk()",
        "boolean put(long, int)",
        "int load(int) IllegalArgumentException IllegalStateException",
        "int fault()",
        "int metric(int, int, int) IndexOutOfBoundsException",
        "int parameter(int, int) IndexOutOfBoundsException",
        "int set(int) IllegalArgumentException IllegalStateException IndexOutOfBoundsException",
        "int item(int, int)",
        "long width()",
        "int count(int)"));

    public static void main(String[] args) throws IOException {
        Class<?> desk = FontDesk.class;
        same("class", "public final", Modifier.toString(desk.getModifiers()));
        Set<String> seen = new TreeSet<>();
        Set<String> names = new TreeSet<>();
        for (Method m : desk.getDeclaredMethods()) {
            if (Modifier.isPublic(m.getModifiers())) {
                same(m.getName(), "public", Modifier.toString(m.getModifiers()));
                seen.add(told(m));
                names.add(m.getName());
            }
        }
        seen.add("NONE = " + FontDesk.NONE);
        seen.add("FontDesk()");
        same("face", FACE.toString(), seen.toString());
        if (Files.isReadable(DOCUMENT)) {
            same("face in the document", FACE.toString(), documented().toString());
        }
        for (Class<?> c : Stream.concat(Stream.of(desk), Arrays.stream(desk.getDeclaredClasses())).toList()) {
            for (Method m : c.getDeclaredMethods()) {
                boolean own = c == desk && Modifier.isPublic(m.getModifiers());
                same(c.getName() + "." + m.getName() + " bears a name of the face", own + "",
                    names.contains(m.getName()) + "");
                same(m.getName() + " is private or public", "true",
                    c != desk || own || Modifier.isPrivate(m.getModifiers()) ? "true" : "false");
            }
        }
        Arrays.stream(desk.getDeclaredFields()).forEach(f -> same(f.getName(), f.getName().equals("NONE")
            ? "public static final" : "private", Modifier.toString(f.getModifiers()).replaceAll("^private.*", "private")));
        for (Class<?> c : desk.getDeclaredClasses()) {
            same(c.getName() + " is static", "true", Modifier.isStatic(c.getModifiers()) + "");
            Arrays.stream(c.getDeclaredFields()).filter(f -> Modifier.isStatic(f.getModifiers())).forEach(
                f -> same(f.getName() + " is final", "true", Modifier.isFinal(f.getModifiers()) + ""));
        }
        same("constructors", "[public FontDesk()]", Arrays.toString(desk.getDeclaredConstructors()));
        Due.end("FontDeskFaceTest");
    }

    /** The lines of the document's face in the form of told(): without public, names of parameters, and throws. */
    private static Set<String> documented() throws IOException {
        Set<String> face = new TreeSet<>();
        for (String line : Files.readAllLines(DOCUMENT)) {
            if (line.matches("    public .*;")) {
                String[] parts = line.strip().replaceAll("^public (static final int )?|;$", "").split(" throws ");
                String thrown = parts.length < 2 ? "" : Arrays.stream(parts[1].split(", ")).sorted()
                    .map(n -> " " + n).collect(Collectors.joining());
                face.add(parts[0].replaceAll("(int|long|boolean) \\w+(?=[,)])", "$1") + thrown);
            }
        }
        return face;
    }

    private static String told(Method m) {
        String taken = Arrays.stream(m.getParameterTypes()).map(Class::getName).collect(Collectors.joining(", "));
        String thrown = Arrays.stream(m.getExceptionTypes()).map(Class::getSimpleName).sorted()
            .map(n -> " " + n).collect(Collectors.joining());
        return m.getReturnType().getName() + " " + m.getName() + "(" + taken + ")" + thrown;
    }

    private static void same(String what, String want, String got) {
        Due.same(what + ": " + got + ", due is " + want + ":", 1, want.equals(got) ? 1 : 0);
    }
}
