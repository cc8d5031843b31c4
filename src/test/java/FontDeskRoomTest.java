import com.sun.management.ThreadMXBean;
import java.lang.management.ManagementFactory;

/**
 * What a run of 512 calls makes, counted in bytes. An object has sixteen of them at least and an element one, so below
 * four million a run makes less than 262,144 objects and four million elements, well within the room of 600,000 and
 * 7.3 million.
 */
public final class FontDeskRoomTest {
    private static final int CALLS = 512;
    private static final long ROOM = 1L << 22;
    private static final ThreadMXBean THREADS = (ThreadMXBean) ManagementFactory.getThreadMXBean();

    private static FontDesk desk;
    private static int left;

    private interface Run {
        void go();
    }

    public static void main(String[] args) {
        stays("loads of nothing", FontDeskRoomTest::loadsOfNothing);
        stays("words of nothing", FontDeskRoomTest::wordsOfNothing);
        stays("files that are refused", FontDeskRoomTest::refusals);
        stays("fonts, as many as there can be", FontDeskRoomTest::smallFonts);
        stays("ever more programs", FontDeskRoomTest::morePrograms);
        stays("one long draft", FontDeskRoomTest::longDraft);
        stays("words that grow", FontDeskRoomTest::growingWords);
        Due.end("FontDeskRoomTest");
    }

    private static void stays(String what, Run run) {
        // Once unmeasured: what the machine makes to load and link the code is not the class's.
        begin(run);
        long before = THREADS.getCurrentThreadAllocatedBytes();
        begin(run);
        long made = THREADS.getCurrentThreadAllocatedBytes() - before;
        System.out.println(what + ": " + made + " bytes");
        Due.same(what + " stay in their room:", 1, made > 0 && made < ROOM ? 1 : 0);
    }

    private static void begin(Run run) {
        desk = new FontDesk();
        left = CALLS;
        run.go();
    }

    private static void load() {
        left--;
        Due.of(() -> desk.load(65536));
    }

    private static void set() {
        left--;
        Due.of(() -> desk.set(0));
    }

    private static void draft(byte[] bytes) {
        left -= calls(bytes);
        MetricFile.draft(desk, bytes);
    }

    private static int calls(byte[] bytes) {
        return (bytes.length + 7) / 8;
    }

    private static void loadsOfNothing() {
        while (left > 0) {
            load();
        }
    }

    private static void wordsOfNothing() {
        while (left > 0) {
            set();
        }
    }

    private static void refusals() {
        MetricFile file = new MetricFile();
        file.head.set(1, 0);
        byte[] bytes = file.bytes();
        while (left > calls(bytes)) {
            draft(bytes);
            load();
        }
    }

    private static void smallFonts() {
        byte[] bytes = withPrograms(1);
        while (left > calls(bytes)) {
            draft(bytes);
            load();
        }
    }

    // The tables are dearest if each file needs larger ones than the file ahead of it.
    private static void morePrograms() {
        for (int programs = 1; programs <= 256; programs *= 2) {
            byte[] bytes = withPrograms(programs);
            if (left > calls(bytes)) {
                draft(bytes);
                load();
            }
        }
        Due.same("fonts of ever more programs", 9, desk.count(0));
    }

    private static byte[] withPrograms(int characters) {
        MetricFile file = MetricFile.plain(0, characters);
        file.step(255, 0, 0, 0).step(128, 0, 11, 0).step(255, 0, 0, 1);
        for (int c = 0; c < characters; c++) {
            file.program(c, 1);
        }
        return file.bytes();
    }

    private static void longDraft() {
        while (left > 1) {
            left--;
            desk.put(left, 8);
        }
        load();
    }

    private static void growingWords() {
        MetricFile file = MetricFile.plain(0, 256);
        file.step(128, 1, 11, 2);
        for (int c = 0; c < 256; c++) {
            file.program(c, 0);
        }
        draft(file.bytes());
        load();
        byte[] word = new byte[200];
        java.util.Arrays.fill(word, (byte) 1);
        while (left > calls(word)) {
            draft(word);
            set();
        }
        Due.same("a word that grew", 2, desk.item(1, 1));
    }
}
