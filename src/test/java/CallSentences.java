import java.util.List;

/** The constants and the promises 1 to 6: a new object, put, load, fault, metric and parameter. */
final class CallSentences {
    private static final int ONE = Trial.ONE;
    private static final int LEAST = Integer.MIN_VALUE;
    private static final int MOST = Integer.MAX_VALUE;

    static void all() {
        none();
        newObject();
        putAppends();
        putOfNoBytes();
        putIntoFull();
        loadTakes();
        loadRefuses();
        loadLooksFirst();
        faultOfTheLast();
        noFault();
        metricOfACharacter();
        metricOfNone();
        parameterOfAFont();
        parameterOfLess();
        parameterOfNone();
    }

    private static void none() {
        Doc.says("The constants: `NONE = -1`: None.");
        Due.same("NONE", -1, FontDesk.NONE);
    }

    // ---- promise 1

    private static void newObject() {
        Doc.says("No fonts, nothing drafted.");
        FontDesk other = Trial.with(Trial.sample(), 65536);
        Trial.word(other, "ab");
        Due.is("another object's word", 3, () -> other.set(0));
        other.put(0, 5);
        FontDesk desk = new FontDesk();
        for (int what = 0; what <= 5; what++) {
            int w = what;
            Due.is("new: count(" + w + ")", 0, () -> desk.count(w));
        }
        Due.is("new: fault", 0, () -> desk.fault());
        Due.is("new: metric", Due.INDEX, () -> desk.metric(0, 'a', 0));
        Due.is("new: parameter", Due.INDEX, () -> desk.parameter(0, 1));
        Trial.nothingSet(desk);
        Due.is("new: set", Due.INDEX, () -> desk.set(0));
        Due.is("new: load", Due.ARGUMENT, () -> desk.load(0));
        Due.is("the other's fonts", 1, () -> other.count(0));
        Due.is("the other's draft", 5, () -> other.count(1));
        Due.is("the other's fault", 0, () -> other.fault());
        Due.is("the other's items", 2, () -> other.item(1, 0));
    }

    // ---- promise 2

    private static void putAppends() {
        Doc.says("Appends the n lowest bytes of v, the highest of these first, to the draft: true;");
        FontDesk desk = Trial.with(MetricFile.plain(0, 256), 65536);
        for (long v : new long[] {0x0123456789ABCDEFL, 0xFEDCBA9876543210L, -1, 0, Long.MIN_VALUE, Long.MAX_VALUE, 0x80,
            0xFFFFFFFF00000000L, 0x00000000FF000000L}) {
            StringBuilder text = new StringBuilder();
            for (int n = 1; n <= 8; n++) {
                int bytes = n;
                Due.is("put of " + n, 1, () -> desk.put(v, bytes) ? 1 : 0);
                for (int i = n - 1; i >= 0; i--) {
                    text.append((char) (v >>> 8 * i & 255));
                }
                Due.is("bytes drafted", text.length(), () -> desk.count(1));
            }
            Trial.sets(desk, "", text.toString());
        }
    }

    private static void putOfNoBytes() {
        Doc.says("false, changing nothing, if n is not 1 .. 8,");
        FontDesk desk = Trial.with(Trial.sample(), 65536);
        for (int n : new int[] {0, -1, -8, 9, 10, 16, 257, 65537, LEAST, LEAST + 1, MOST}) {
            FontDesk empty = new FontDesk();
            Due.is("put of " + n, 0, () -> empty.put(-1, n) ? 1 : 0);
            Due.is("nothing drafted", 0, () -> empty.count(1));
            Trial.word(desk, "ab");
            Due.is("put of " + n, 0, () -> desk.put('c', n) ? 1 : 0);
            Due.is("two drafted", 2, () -> desk.count(1));
            Trial.sets(desk, "f", "a<-6554>bf");
        }
    }

    private static void putIntoFull() {
        Doc.says("or it would have more than 131072.");
        FontDesk desk = Trial.with(MetricFile.plain(0, 1), 65536);
        for (int i = 0; i < 131072 / 8 - 1; i++) {
            desk.put(0, 8);
        }
        desk.put(0, 1);
        Due.is("one too many", 0, () -> desk.put(-1, 8) ? 1 : 0);
        Due.is("changes nothing", 131065, () -> desk.count(1));
        Due.is("just full", 1, () -> desk.put(0, 7) ? 1 : 0);
        for (int n = 1; n <= 8; n++) {
            int bytes = n;
            Due.is("full", 0, () -> desk.put(-1, bytes) ? 1 : 0);
        }
        Due.is("131072 bytes", 131072, () -> desk.count(1));
        Due.is("which are no file", Due.ARGUMENT, () -> desk.load(0));
        Due.is("used up", 0, () -> desk.count(1));
        Due.is("room again", 1, () -> desk.put(0, 8) ? 1 : 0);
        Due.is("a word of it", 8, () -> desk.set(0));
    }

    // ---- promise 3

    private static void loadTakes() {
        Doc.says("The draft is a font's file, used up whatever comes of it, at a size of z scaled points, or at its design "
            + "size (rounded down, 65536 scaled points a whole one) if z is 0: the font's number (0, 1, ..).");
        FontDesk desk = new FontDesk();
        int[] sizes = {1, 2, 65536, 134217726, 134217727};
        for (int k = 0; k < sizes.length; k++) {
            int number = k;
            MetricFile.draft(desk, Trial.sample().bytes());
            Due.is("font " + k, k, () -> desk.load(sizes[number]));
            Due.is("its size", sizes[k], () -> desk.count(4));
            Due.is("used up", 0, () -> desk.count(1));
            // Half a file is refused, and neither is a font nor left in the draft.
            MetricFile.draft(desk, java.util.Arrays.copyOf(Trial.sample().bytes(), 60));
            Due.is("half a file", Due.ARGUMENT, () -> desk.load(65536));
            Due.is("used up, too", 0, () -> desk.count(1));
        }
        for (int k = 0; k < sizes.length; k++) {
            int number = k;
            Due.is("each at its own size", sizes[k] / 2, () -> desk.metric(number, 'a', 0));
        }
        int[][] designs = {{ONE, 65536}, {ONE + 15, 65536}, {ONE + 16, 65537}, {10 * ONE, 655360},
            {MOST, 134217727}, {MOST - 15, 134217727}, {MOST - 16, 134217726}};
        for (int[] d : designs) {
            MetricFile f = Trial.sample();
            f.head.set(1, d[0]);
            FontDesk sized = Trial.with(f, 0);
            Due.is("design size " + d[0], d[1], () -> sized.count(4));
            Due.is("a metric at it", d[1] / 2, () -> sized.metric(0, 'a', 0));
            FontDesk other = Trial.with(f, 1);
            Due.is("1 is no design size", 1, () -> other.count(4));
        }
    }

    private static void loadRefuses() {
        Doc.says("IllegalArgumentException if it is refused;");
        FontDesk desk = Trial.with(Trial.sample(), 65536);
        Due.is("no file at all", Due.ARGUMENT, () -> desk.load(0));
        for (int fault = 1; fault <= 7; fault++) {
            MetricFile f = Trial.sample();
            Trial.spoil(f, fault, true);
            for (int z : new int[] {0, 1, 134217727}) {
                MetricFile.draft(desk, f.bytes());
                Due.is("fault " + fault, Due.ARGUMENT, () -> desk.load(z));
                Due.is("used up", 0, () -> desk.count(1));
                Due.is("one font still", 1, () -> desk.count(0));
                Due.is("its size still", 65536, () -> desk.count(4));
                Due.is("no font 1", Due.INDEX, () -> desk.metric(1, 'a', 0));
            }
        }
        Trial.sets(desk, "ab", "a<-6554>b");
        MetricFile.draft(desk, Trial.sample().bytes());
        Due.is("the next one", 1, () -> desk.load(65536));
    }

    private static void loadLooksFirst() {
        Doc.says("IllegalStateException if z is not 0 .. 134217727, or 32 fonts are there (looked at first; the draft stays "
            + "then).");
        FontDesk desk = new FontDesk();
        byte[] bytes = MetricFile.plain('a', 1).bytes();
        for (int z : new int[] {-1, 134217728, LEAST, MOST}) {
            Due.is("load(" + z + ") of no file", Due.STATE, () -> new FontDesk().load(z));
        }
        MetricFile.draft(desk, bytes);
        for (int z : new int[] {-1, 134217728, LEAST, MOST}) {
            Due.is("load(" + z + ")", Due.STATE, () -> desk.load(z));
            Due.is("the draft stays", bytes.length, () -> desk.count(1));
            Due.is("no font", 0, () -> desk.count(0));
        }
        for (int k = 0; k < 32; k++) {
            int number = k;
            Due.is("font " + k, k, () -> desk.load(number == 0 ? 134217727 : 0));
            MetricFile.draft(desk, bytes);
        }
        for (int z : new int[] {0, 1, 134217727, -1}) {
            Due.is("font 32", Due.STATE, () -> desk.load(z));
            Due.is("32 fonts are there", 32, () -> desk.count(0));
            Due.is("the draft stays", bytes.length, () -> desk.count(1));
        }
        Due.is("font 31", 327680, () -> desk.metric(31, 'a', 0));
        Due.is("no font 32", Due.INDEX, () -> desk.metric(32, 'a', 0));
        Due.is("the draft may still be no word", Due.ARGUMENT, () -> desk.set(0));
        Due.is("32 and no file", Due.STATE, () -> desk.load(0));
        Trial.word(desk, "aaa");
        Due.is("32 and a word", Due.STATE, () -> desk.load(0));
        Due.is("the word stays", 3, () -> desk.set(31));
    }

    // ---- promise 4

    private static void faultOfTheLast() {
        Doc.says("The fault of the file that load() refused last;");
        FontDesk desk = new FontDesk();
        for (int fault : new int[] {1, 2, 3, 4, 5, 6, 7, 6, 5, 4, 3, 2, 1, 7}) {
            MetricFile f = Trial.sample();
            Trial.spoil(f, fault, false);
            MetricFile.draft(desk, f.bytes());
            Due.is("refused", Due.ARGUMENT, () -> desk.load(0));
            Due.is("fault", fault, () -> desk.fault());
            Due.is("told again", fault, () -> desk.fault());
        }
        desk.put(0, 1);
        Due.is("a call between", Due.INDEX, () -> desk.set(0));
        Due.is("leaves it", 7, () -> desk.fault());
        Due.is("no file", Due.ARGUMENT, () -> desk.load(0));
        Due.is("is the latest", 1, () -> desk.fault());
    }

    private static void noFault() {
        Doc.says("0 if the latest one was not refused, or there was none (one that threw IllegalStateException is none).");
        FontDesk desk = new FontDesk();
        Due.is("none yet", 0, () -> desk.fault());
        Due.is("no load", Due.STATE, () -> desk.load(-1));
        Due.is("none still", 0, () -> desk.fault());
        Due.is("refused", Due.ARGUMENT, () -> desk.load(0));
        Due.is("no load", Due.STATE, () -> desk.load(-1));
        Due.is("the refused one is the latest", 1, () -> desk.fault());
        for (int k = 0; k < 32; k++) {
            int number = k;
            MetricFile.draft(desk, MetricFile.plain('a', 1).bytes());
            Due.is("taken", number, () -> desk.load(0));
            Due.is("not refused", 0, () -> desk.fault());
        }
        Due.is("one too many", Due.STATE, () -> desk.load(0));
        Due.is("is none", 0, () -> desk.fault());
        desk.put('b', 1);
        Due.is("no word", Due.ARGUMENT, () -> desk.set(0));
        Due.is("is no file", 0, () -> desk.fault());
    }

    // ---- promise 5

    private static void metricOfACharacter() {
        Doc.says("Of a character of a font, in scaled points: what 0 width, 1 height, 2 depth, 3 italic; 4: its tag, 5: its "
            + "rest (0 with tag 0).");
        MetricFile file = Trial.sample().info('e', 1, 0x11, 4 + 2, 'f').info('f', 1, 0, 0, 9).info('d', 0, 0, 0, 0);
        file.steps.set(1, MetricFile.word(128, 'c', 0, 'b'));
        file.info('b', 1, 0x10, 3, 0).info('c', 1, 0x01, 1, 1);
        FontDesk desk = Trial.with(file, 655361);
        MetricFile.draft(desk, file.bytes());
        Due.is("twice as large", 1, () -> desk.load(1310722));
        long[][] want = {{327680, 0, 0, 0, 1, 0}, {327680, 163840, 0, 0, 3, 0}, {327680, 0, 81920, 0, 1, 1}, null,
            {327680, 163840, 81920, -40961, 2, 'f'}, {327680, 0, 0, 0, 0, 0}};
        long[] twice = {655361, 327680, 163840, -81921, 2, 'f'};
        for (int what = 0; what < 6; what++) {
            int w = what;
            for (int c = 'a'; c <= 'f'; c++) {
                int code = c;
                if (c != 'd') {
                    Due.is((char) c + ", " + what, want[c - 'a'][what], () -> desk.metric(0, code, w));
                }
            }
            Due.is("e at twice the size, " + what, twice[what], () -> desk.metric(1, 'e', w));
        }
        MetricFile ends = MetricFile.plain(0, 256);
        ends.widths.addAll(List.of(16, 32));
        FontDesk all = Trial.with(ends.info(0, 2, 0, 0, 0).info(255, 3, 0, 0, 255), 65536);
        Due.is("the first code", 1, () -> all.metric(0, 0, 0));
        Due.is("the last code", 2, () -> all.metric(0, 255, 0));
        Due.is("a rest of 255 with tag 0", 0, () -> all.metric(0, 255, 5));
    }

    private static void metricOfNone() {
        Doc.says("IndexOutOfBoundsException if there is no such font, character or what.");
        FontDesk desk = Trial.with(Trial.sample().info('e', 0, 0, 0, 0), 65536);
        for (int font : new int[] {-1, 1, 31, 32, 256, LEAST, MOST}) {
            Due.is("font " + font, Due.INDEX, () -> desk.metric(font, 'a', 0));
        }
        for (int c : new int[] {'e', 'a' - 1, 'g', 0, 255, 256, -1, 'a' + 256, 'a' - 256, 'a' + 65536, LEAST, MOST}) {
            Due.is("character " + c, Due.INDEX, () -> desk.metric(0, c, 0));
            Due.is("tag of " + c, Due.INDEX, () -> desk.metric(0, c, 4));
        }
        for (int what : new int[] {-1, 6, 7, 256, LEAST, MOST}) {
            Due.is("what " + what, Due.INDEX, () -> desk.metric(0, 'a', what));
        }
        Due.is("all as must be", 32768, () -> desk.metric(0, 'a', 0));
        Due.is("no fonts", Due.INDEX, () -> new FontDesk().metric(0, 'a', 0));
    }

    // ---- promise 6

    private static void parameterOfAFont() {
        Doc.says("Parameter k of a font, 1 .. NP: the first one as a fraction is, in parts of 65536, rounded down; the others "
            + "in scaled points.");
        int[][] firsts = {{0, 0}, {15, 0}, {16, 1}, {-1, -1}, {-16, -1}, {-17, -2}, {ONE, 65536}, {-ONE, -65536},
            {16 * ONE, 1048576}, {MOST, 134217727}, {LEAST, -134217728}};
        for (int[] p : firsts) {
            for (int z : new int[] {1, 65536, 134217727}) {
                MetricFile f = Trial.sample();
                f.parameters.set(0, p[0]);
                FontDesk desk = Trial.with(f, z);
                Due.is("first of " + p[0] + " at " + z, p[1], () -> desk.parameter(0, 1));
            }
        }
        MetricFile f = Trial.sample();
        f.parameters.add(-ONE / 3);
        FontDesk desk = Trial.with(f, 3 * 65536);
        MetricFile.draft(desk, f.bytes());
        Due.is("another size", 1, () -> desk.load(3));
        Due.is("second", 65535, () -> desk.parameter(0, 2));
        Due.is("third, the last", -65536, () -> desk.parameter(0, 3));
        Due.is("second at the other size", 0, () -> desk.parameter(1, 2));
        Due.is("third at the other size", -1, () -> desk.parameter(1, 3));
    }

    private static void parameterOfLess() {
        Doc.says("0 if it has less;");
        FontDesk desk = Trial.with(Trial.sample(), 65536);
        Due.is("the last", 21845, () -> desk.parameter(0, 2));
        for (int k : new int[] {3, 4, 7, 256, 65537, MOST - 1, MOST}) {
            Due.is("parameter " + k + " of two", 0, () -> desk.parameter(0, k));
        }
        FontDesk bare = Trial.with(MetricFile.plain('a', 1), 65536);
        for (int k : new int[] {1, 2, MOST}) {
            Due.is("parameter " + k + " of none", 0, () -> bare.parameter(0, k));
        }
    }

    private static void parameterOfNone() {
        Doc.says("IndexOutOfBoundsException if there is no such font, or k is below 1.");
        FontDesk desk = Trial.with(Trial.sample(), 65536);
        for (int font : new int[] {-1, 1, 31, 32, LEAST, MOST}) {
            Due.is("font " + font, Due.INDEX, () -> desk.parameter(font, 1));
            Due.is("font " + font + ", less", Due.INDEX, () -> desk.parameter(font, 9));
        }
        for (int k : new int[] {0, -1, -2, LEAST, LEAST + 1}) {
            Due.is("k " + k, Due.INDEX, () -> desk.parameter(0, k));
        }
        Due.is("all as must be", 16384, () -> desk.parameter(0, 1));
        Due.is("no fonts", Due.INDEX, () -> new FontDesk().parameter(0, 1));
    }
}
