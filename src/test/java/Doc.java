import java.io.IOException;
import java.nio.file.Files;
import java.nio.file.Path;
import java.util.ArrayList;
import java.util.List;

/** The document's Terms and promises: what a test quotes must stand there, and nothing there may stay unquoted. */
final class Doc {
    private static final Path PLACE = Path.of("..", "shared", "DOC.md");
    private static final String TEXT = read();

    private static final boolean[] quoted = new boolean[TEXT.length()];
    private static int sentences = 0;

    /** What is asked from here on is a test of this sentence. */
    static void says(String sentence) {
        Due.begin(sentence);
        sentences++;
        if (TEXT.isEmpty()) {
            return;
        }
        int at = TEXT.indexOf(sentence);
        if (at < 0) {
            Due.fail("the document does not say so");
        } else if (quoted[at]) {
            Due.fail("another test is of these words already");
        }
        for (int i = at; at >= 0 && i < at + sentence.length(); i++) {
            quoted[i] = true;
        }
    }

    /** Told when all tests have run: each word of the document has one. */
    static void end() {
        Due.begin("the document as a whole");
        StringBuilder rest = new StringBuilder();
        for (int i = 0; i < quoted.length; i++) {
            rest.append(quoted[i] ? ' ' : TEXT.charAt(i));
        }
        String unquoted = rest.toString().replaceAll("\\s+", " ").trim();
        Due.same("words without a test '" + unquoted + "':", 0, unquoted.length());
        System.out.println(sentences + " sentences" + (TEXT.isEmpty() ? ", no document there to hold them against" : ""));
    }

    private static String read() {
        if (!Files.isReadable(PLACE)) {
            return "";
        }
        try {
            return bare(Files.readAllLines(PLACE));
        } catch (IOException e) {
            throw new IllegalStateException(PLACE + " can't be read", e);
        }
    }

    /** Without headings, fences and the promises' signatures, in one line. */
    private static String bare(List<String> lines) {
        List<String> kept = new ArrayList<>();
        int from = lines.indexOf("## Terms");
        int to = lines.indexOf("## Not promised");
        for (String line : lines.subList(Math.max(0, from), to < 0 ? lines.size() : to)) {
            if (!line.startsWith("#") && !line.startsWith("```")) {
                kept.add(line.replaceFirst("^`[^`]*`: ", ""));
            }
        }
        return String.join(" ", kept).replaceAll("\\s+", " ").trim();
    }
}
