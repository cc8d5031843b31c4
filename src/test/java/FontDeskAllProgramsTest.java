import java.nio.charset.StandardCharsets;
import java.util.ArrayList;
import java.util.List;

/**
 * Every set of programs that two signs can have, held against PlainFont: which of them do not end, and what the others
 * make of short words.
 */
public final class FontDeskAllProgramsTest {
    private static final int[] DEEDS = {0, 1, 2, 3, 5, 6, 7, 11};
    private static final int BOUNDARY = 200;
    // Four pairs, each needing two others at most: what ends does so within fifteen stands.
    private static final int STANDS = 64;

    private static final int[] faults = new int[8];
    private static FontDesk desk = new FontDesk();

    public static void main(String[] args) {
        twoCharacters();
        oneCharacterAndEdges();
        System.out.println("files that end " + faults[0] + ", that do not " + faults[7]);
        Due.same("files that end are enough:", 1, faults[0] > 10000 ? 1 : 0);
        Due.same("files that do not end are enough:", 1, faults[7] > 10000 ? 1 : 0);
        Due.end("FontDeskAllProgramsTest");
    }

    /** For a a, a b, b a and b b no step, a kern, or any deed with a or b. */
    private static void twoCharacters() {
        String[] words = {"", "a", "ab", "ba", "aab", "abb", "bab", "abab"};
        int choices = 2 + 2 * DEEDS.length;
        for (int all = 0; all < choices * choices * choices * choices; all++) {
            MetricFile f = MetricFile.plain('a', 2);
            f.kerns.add(16);
            int left = all;
            for (int x = 'a'; x <= 'b'; x++) {
                List<int[]> steps = new ArrayList<>();
                for (int y = 'a'; y <= 'b'; y++) {
                    choose(steps, y, left % choices);
                    left /= choices;
                }
                if (!steps.isEmpty()) {
                    f.program(x, f.steps.size());
                }
                lay(f, steps);
            }
            held("two characters " + all, f.bytes(), words);
        }
    }

    /** For the left edge and a, and for a and the boundary, and so on: no step, a kern, or any deed with a. */
    private static void oneCharacterAndEdges() {
        String[] words = {"", "a", "aa", "aaa"};
        int choices = 2 + DEEDS.length;
        for (int all = 0; all < choices * choices * choices * choices; all++) {
            MetricFile f = MetricFile.plain('a', 1).step(255, BOUNDARY, 0, 0);
            f.kerns.add(16);
            List<int[]> left = new ArrayList<>();
            List<int[]> own = new ArrayList<>();
            choose(left, 'a', all % choices);
            choose(left, BOUNDARY, all / choices % choices);
            choose(own, 'a', all / choices / choices % choices);
            choose(own, BOUNDARY, all / choices / choices / choices);
            if (!own.isEmpty()) {
                f.program('a', f.steps.size());
            }
            lay(f, own);
            int begin = f.steps.size();
            lay(f, left);
            f.step(255, 0, 0, begin);
            held("edges " + all, f.bytes(), words);
        }
    }

    private static void choose(List<int[]> steps, int y, int choice) {
        if (choice == 1) {
            steps.add(new int[] {y, 128, 0});
        } else if (choice > 1) {
            steps.add(new int[] {y, DEEDS[(choice - 2) % 8], 'a' + (choice - 2) / 8});
        }
    }

    private static void lay(MetricFile f, List<int[]> steps) {
        for (int k = 0; k < steps.size(); k++) {
            int[] s = steps.get(k);
            f.step(k == steps.size() - 1 ? 128 : 0, s[0], s[1], s[2]);
        }
    }

    private static void held(String name, byte[] bytes, String[] words) {
        if (desk.count(0) == 32) {
            desk = new FontDesk();
        }
        int font = desk.count(0);
        PlainFont plain = new PlainFont(bytes);
        int fault = plain.fault(STANDS);
        faults[fault]++;
        MetricFile.draft(desk, bytes);
        Due.is(name + ": load", fault == 0 ? font : Due.ARGUMENT, () -> desk.load(65536));
        Due.same(name + ": fault", fault, desk.fault());
        if (fault != 0 || desk.fault() != 0) {
            return;
        }
        plain.size = 65536;
        for (String word : words) {
            byte[] text = word.getBytes(StandardCharsets.ISO_8859_1);
            List<PlainFont.Sign> want = plain.set(text);
            MetricFile.draft(desk, text);
            Due.is(name + ": set", want == null ? Due.STATE : want.size(), () -> desk.set(font));
            for (int i = 0; want != null && i < want.size(); i++) {
                Due.same(name + ": kind", want.get(i).kind(), desk.item(i, 0));
                Due.same(name + ": code", want.get(i).code(), desk.item(i, 1));
            }
        }
    }
}
