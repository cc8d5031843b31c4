import java.io.IOException;
import java.nio.file.Files;
import java.nio.file.Path;
import java.util.Arrays;
import java.util.List;
import java.util.regex.Matcher;
import java.util.regex.Pattern;
import java.util.stream.Collectors;
import java.util.stream.Stream;

/** README.md's example stands here word for word and does what its comments say; its lists are whole. */
public final class FontDeskReadmeTest {
    private static final Path TESTS = Path.of("src", "test", "java");

    public static void main(String[] args) throws IOException {
        String readme = Files.readString(Path.of("README.md"));
        example();
        sameExample(readme);
        callsAreTold(readme);
        testsAreTold(readme);
        Due.end("FontDeskReadmeTest");
    }

    private static void example() {
        // README begins
        FontDesk desk = new FontDesk();
        desk.put(0x0016_0002_0061_0063L, 8);    // LF 22, LH 2, BC 'a', EC 'c'
        desk.put(0x0003_0002_0001_0001L, 8);    // NW 3, NH 2, ND 1, NI 1
        desk.put(0x0002_0001_0000_0001L, 8);    // NL 2, NK 1, NE 0, NP 1
        desk.put(0x00000000_00A00000L, 8);      // the head; the design size is 10
        desk.put(0x01100100_01100000L, 8);      // the infos of a (its program begins at step 0) and b
        desk.put(0x02100101L, 4);               // and of c (its program begins at step 1)
        desk.put(0x00000000_00080000L, 8);      // widths 0, 1/2,
        desk.put(0x000C0000L, 4);               // 3/4
        desk.put(0x00000000_00070000L, 8);      // heights 0, 7/16
        desk.put(0x00000000_00000000L, 8);      // the one depth, the one italic
        desk.put(0x80620063_80618000L, 8);      // a and b become c; kern 0 stands between c and a
        desk.put(0xFFFE0000_00040000L, 8);      // the kern, -1/8; the parameter, 1/4

        int font = desk.load(0);                // 0, the first font, at its design size
        int size = desk.count(4);               // 655360 scaled points
        int high = desk.metric(font, 'c', 1);   // 286720
        int slant = desk.parameter(font, 1);    // 16384

        desk.put('a', 1);
        desk.put('b', 1);
        desk.put('a', 1);
        int items = desk.set(font);             // 3
        int kind = desk.item(0, 0);             // 1, a character that came by a ligature
        int code = desk.item(0, 1);             // 99, which is c
        int kern = desk.item(1, 1);             // -81920
        long width = desk.width();              // 737280
        // README ends
        Due.same("font", 0, font);
        Due.same("size", 655360, size);
        Due.same("high", 286720, high);
        Due.same("slant", 16384, slant);
        Due.same("items", 3, items);
        Due.same("kind", 1, kind);
        Due.same("code", 99, code);
        Due.same("kern", -81920, kern);
        Due.same("width", 737280, width);
    }

    private static void sameExample(String readme) throws IOException {
        String here = Files.readString(TESTS.resolve("FontDeskReadmeTest.java"));
        String ran = between(here, "// README begins\n", " +// README ends\n").replaceAll("(?m)^ {8}", "");
        holds("the example is the one that ran", between(readme, "```java\n", "```").equals(ran));
    }

    private static String between(String text, String from, String to) {
        Matcher m = Pattern.compile("(?s)" + from + "(.*?)" + to).matcher(text);
        return m.find() ? m.group(1) : "nothing between " + from + " and " + to;
    }

    private static void callsAreTold(String readme) {
        Arrays.stream(FontDesk.class.getDeclaredMethods())
            .filter(m -> java.lang.reflect.Modifier.isPublic(m.getModifiers()))
            .forEach(m -> holds(m.getName() + " is told", readme.contains("| `" + m.getName() + "(")));
    }

    private static void testsAreTold(String readme) throws IOException {
        List<String> names;
        try (Stream<Path> files = Files.list(TESTS)) {
            names = files.map(f -> f.getFileName().toString().replace(".java", "")).collect(Collectors.toList());
        }
        names.forEach(n -> holds(n + " is told", readme.contains("`" + n + "`")));
        Matcher told = Pattern.compile("`(\\w+(Test|Sentences))`").matcher(readme);
        while (told.find()) {
            holds(told.group(1) + " is there", names.contains(told.group(1)));
        }
    }

    private static void holds(String what, boolean does) {
        Due.same(what + ":", 1, does ? 1 : 0);
    }
}
