import java.io.ByteArrayOutputStream;
import java.util.ArrayList;
import java.util.List;

/** Builds the bytes of a metric file; the halves follow from the rows unless a test sets them by force. */
final class MetricFile {
    static final int ONE = 1 << 20;

    final List<Integer> head = new ArrayList<>(List.of(0, 10 * ONE));
    int bc = 97;
    final List<Integer> infos = new ArrayList<>();
    final List<Integer> widths = new ArrayList<>(List.of(0));
    final List<Integer> heights = new ArrayList<>(List.of(0));
    final List<Integer> depths = new ArrayList<>(List.of(0));
    final List<Integer> italics = new ArrayList<>(List.of(0));
    final List<Integer> steps = new ArrayList<>();
    final List<Integer> kerns = new ArrayList<>();
    final List<Integer> pieces = new ArrayList<>();
    final List<Integer> parameters = new ArrayList<>();
    private final int[] forced = new int[12];

    MetricFile() {
        java.util.Arrays.fill(forced, -1);
    }

    /** Characters from bc on, all with the width of half the size and without a tag. */
    static MetricFile plain(int bc, int characters) {
        MetricFile f = new MetricFile();
        f.bc = bc;
        f.widths.add(ONE / 2);
        for (int i = 0; i < characters; i++) {
            f.infos.add(word(1, 0, 0, 0));
        }
        return f;
    }

    static int word(int a, int b, int c, int d) {
        return a << 24 | b << 16 | c << 8 | d;
    }

    MetricFile info(int code, int a, int b, int c, int d) {
        infos.set(code - bc, word(a, b, c, d));
        return this;
    }

    /** The character's program begins at this step. */
    MetricFile program(int code, int step) {
        return info(code, 1, 0, 1, step);
    }

    MetricFile step(int s, int n, int o, int r) {
        steps.add(word(s, n, o, r));
        return this;
    }

    MetricFile force(int half, int value) {
        forced[half] = value;
        return this;
    }

    int[] halves() {
        int[] h = {0, head.size(), bc, bc + infos.size() - 1, widths.size(), heights.size(), depths.size(),
            italics.size(), steps.size(), kerns.size(), pieces.size(), parameters.size()};
        h[0] = 6 + head.size() + infos.size();
        for (int i = 4; i < 12; i++) {
            h[0] += h[i];
        }
        for (int i = 0; i < 12; i++) {
            if (forced[i] >= 0) {
                h[i] = forced[i];
            }
        }
        return h;
    }

    byte[] bytes() {
        ByteArrayOutputStream out = new ByteArrayOutputStream();
        for (int half : halves()) {
            out.write(half >> 8);
            out.write(half);
        }
        for (List<Integer> row : List.of(head, infos, widths, heights, depths, italics, steps, kerns, pieces,
                parameters)) {
            for (int w : row) {
                out.write(w >> 24);
                out.write(w >> 16);
                out.write(w >> 8);
                out.write(w);
            }
        }
        return out.toByteArray();
    }

    /** Drafts bytes, eight a call. */
    static void draft(FontDesk desk, byte[] bytes) {
        for (int at = 0; at < bytes.length; at += 8) {
            int n = Math.min(8, bytes.length - at);
            long v = 0;
            for (int i = 0; i < n; i++) {
                v = v << 8 | bytes[at + i] & 255;
            }
            desk.put(v, n);
        }
    }
}
