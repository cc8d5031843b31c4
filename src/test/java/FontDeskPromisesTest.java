import java.util.function.Consumer;

/** For each promise its ordinary inputs, the edges that the document names, and wrong inputs. */
public final class FontDeskPromisesTest {
    private static final int ONE = MetricFile.ONE;
    private static final int KERN = 128;

    public static void main(String[] args) {
        newObject();
        put();
        load();
        loadLimits();
        halves();
        designSizes();
        infos();
        fractions();
        steps();
        farSteps();
        pieces();
        faultOrder();
        endlessPrograms();
        middlesOfPairs();
        longChainsOfPairs();
        loadsBehindOneAnother();
        fault();
        metric();
        parameter();
        setPlain();
        setPrograms();
        setLigatures();
        setEdges();
        setWrong();
        setLimits();
        item();
        width();
        count();
        Due.end("FontDeskPromisesTest");
    }

    // ---- helpers

    private static FontDesk with(MetricFile file, int z) {
        FontDesk desk = new FontDesk();
        MetricFile.draft(desk, file.bytes());
        Due.is("load of a good file", 0, () -> desk.load(z));
        return desk;
    }

    /** Asserts the fault of a file, 0 for one that is taken. */
    private static void faultIs(String what, int want, MetricFile file) {
        faultIs(what, want, file.bytes());
    }

    private static void faultIs(String what, int want, byte[] bytes) {
        FontDesk desk = new FontDesk();
        MetricFile.draft(desk, bytes);
        Due.is(what + ": load", want == 0 ? 0 : Due.ARGUMENT, () -> desk.load(65536));
        Due.is(what + ": fault", want, () -> desk.fault());
        Due.is(what + ": fonts", want == 0 ? 1 : 0, () -> desk.count(0));
        Due.is(what + ": draft", 0, () -> desk.count(1));
    }

    private static void faultIs(String what, int want, Consumer<MetricFile> change) {
        MetricFile file = sample();
        change.accept(file);
        faultIs(what, want, file);
    }

    /** Characters a .. f of half a size, e with an italic; steps, kerns, a piece and parameters. */
    private static MetricFile sample() {
        MetricFile f = MetricFile.plain('a', 6);
        f.head.set(0, 0x12345678);
        f.heights.add(ONE / 4);
        f.depths.add(ONE / 8);
        f.italics.add(-ONE / 16);
        f.kerns.add(-ONE / 10);
        f.pieces.add(MetricFile.word(0, 'a', 0, 'b'));
        f.parameters.add(ONE / 4);
        f.parameters.add(ONE / 3);
        f.step(0, 'b', KERN, 0).step(128, 'c', 0, 'd');
        return f.program('a', 0);
    }

    private static void word(FontDesk desk, String text) {
        for (int i = 0; i < text.length(); i++) {
            desk.put(text.charAt(i), 1);
        }
    }

    /** Sets a word and asserts its items: 'a' a character, (a) one by a ligature, a number for a kern. */
    private static void sets(FontDesk desk, String text, String want) {
        word(desk, text);
        long items = Due.of(() -> desk.set(0));
        StringBuilder got = new StringBuilder();
        for (int k = 0; k < items && k < 1000; k++) {
            int code = desk.item(k, 1);
            switch (desk.item(k, 0)) {
                case 0:
                    got.append((char) code);
                    break;
                case 1:
                    got.append('(').append((char) code).append(')');
                    break;
                default:
                    got.append('<').append(code).append('>');
                    break;
            }
        }
        boolean same = got.toString().equals(want);
        Due.same("'" + text + "' set as " + got + ", due is " + want + ":", 1, same ? 1 : 0);
    }

    // ---- promise 1

    private static void newObject() {
        FontDesk desk = new FontDesk();
        Due.same("NONE", -1, FontDesk.NONE);
        for (int what = 0; what <= 5; what++) {
            int w = what;
            Due.is("new: count(" + w + ")", 0, () -> desk.count(w));
        }
        Due.is("new: fault", 0, () -> desk.fault());
        Due.is("new: width", 0, () -> desk.width());
        Due.is("new: item", -1, () -> desk.item(0, 0));
        Due.is("new: metric", Due.INDEX, () -> desk.metric(0, 0, 0));
        Due.is("new: parameter", Due.INDEX, () -> desk.parameter(0, 1));
        Due.is("new: set", Due.INDEX, () -> desk.set(0));
    }

    // ---- promise 2

    private static void put() {
        FontDesk desk = new FontDesk();
        for (int n : new int[] {0, -1, 9, Integer.MIN_VALUE, Integer.MAX_VALUE}) {
            Due.is("put of " + n, 0, () -> desk.put(5, n) ? 1 : 0);
        }
        Due.is("put of none drafts none", 0, () -> desk.count(1));
        int bytes = 0;
        for (int n = 1; n <= 8; n++) {
            int count = n;
            Due.is("put of " + n, 1, () -> desk.put(-1, count) ? 1 : 0);
            bytes += n;
            Due.is("bytes drafted", bytes, () -> desk.count(1));
        }
        lowestBytesHighestFirst();
        FontDesk full = new FontDesk();
        for (int i = 0; i < 131072 / 8 - 1; i++) {
            full.put(0, 8);
        }
        full.put(0, 1);
        Due.is("too much by one", 0, () -> full.put(0, 8) ? 1 : 0);
        Due.is("changes nothing", 131065, () -> full.count(1));
        Due.is("just full", 1, () -> full.put(0, 7) ? 1 : 0);
        Due.is("full", 0, () -> full.put(0, 1) ? 1 : 0);
        Due.is("131072 bytes", 131072, () -> full.count(1));
    }

    private static void lowestBytesHighestFirst() {
        FontDesk desk = with(MetricFile.plain('a', 6), 0);
        desk.put(0x7F7F7F0000616263L, 3);
        desk.put(0x6465666162636465L, 8);
        Due.is("bytes in order", 11, () -> desk.set(0));
        for (int k = 0; k < 11; k++) {
            int at = k;
            Due.is("byte " + k, "abcdefabcde".charAt(k), () -> desk.item(at, 1));
        }
    }

    // ---- promise 3

    private static void load() {
        FontDesk desk = with(sample(), 0);
        Due.is("design size", 10 * 65536, () -> desk.count(4));
        MetricFile.draft(desk, sample().bytes());
        Due.is("a second font", 1, () -> desk.load(7));
        Due.is("its size", 7, () -> desk.count(4));
        Due.is("the draft is used up", 0, () -> desk.count(1));
        Due.is("no bytes are no file", Due.ARGUMENT, () -> desk.load(0));
        Due.is("its fault", 1, () -> desk.fault());
        Due.is("two fonts still", 2, () -> desk.count(0));

        MetricFile odd = sample();
        odd.head.set(1, ONE + 15);
        FontDesk small = with(odd, 0);
        Due.is("design size rounded down", 65536, () -> small.count(4));
        odd.head.set(1, Integer.MAX_VALUE);
        FontDesk large = with(odd, 0);
        Due.is("largest design size", 134217727, () -> large.count(4));
    }

    private static void loadLimits() {
        FontDesk desk = new FontDesk();
        byte[] bytes = MetricFile.plain(1, 0).bytes();
        MetricFile.draft(desk, bytes);
        for (int z : new int[] {-1, 134217728, Integer.MIN_VALUE, Integer.MAX_VALUE}) {
            Due.is("load(" + z + ")", Due.STATE, () -> desk.load(z));
        }
        Due.is("the draft stays", bytes.length, () -> desk.count(1));
        Due.is("largest size", 0, () -> desk.load(134217727));
        for (int k = 1; k < 32; k++) {
            MetricFile.draft(desk, bytes);
            Due.is("font " + k, k, () -> desk.load(1));
        }
        MetricFile.draft(desk, bytes);
        Due.is("font 32", Due.STATE, () -> desk.load(1));
        Due.is("32 fonts are there", 32, () -> desk.count(0));
        Due.is("the draft stays too", bytes.length, () -> desk.count(1));
        desk.put(0, 1);
        Due.is("looked at ahead of the file", Due.STATE, () -> desk.load(1));
        Due.is("and no fault", 0, () -> desk.fault());
    }

    // ---- the faults

    private static void halves() {
        faultIs("the sample", 0, sample());
        byte[] good = sample().bytes();
        for (int n = 0; n < good.length; n += n < 30 ? 1 : 13) {
            faultIs(n + " bytes", 1, java.util.Arrays.copyOf(good, n));
        }
        faultIs("a byte more", 1, java.util.Arrays.copyOf(good, good.length + 1));
        faultIs("a word more", 1, java.util.Arrays.copyOf(good, good.length + 4));
        for (int half = 0; half < 12; half++) {
            int h = half;
            int now = sample().halves()[half];
            faultIs("half " + half + " more", 1, f -> f.force(h, now + 1));
            faultIs("half " + half + " less", 1, f -> f.force(h, (now - 1) & 65535));
            faultIs("half " + half + " of 32768 more", 1, f -> f.force(h, now + 32768));
        }
        // Both kept in sum, so that only the limit of the one is hurt.
        faultIs("a head of one", 1, f -> f.force(1, 1).force(4, 3));
        faultIs("no widths", 1, f -> f.force(4, 0).force(1, 4));
        faultIs("no heights", 1, f -> f.force(5, 0).force(1, 4));
        faultIs("no depths", 1, f -> f.force(6, 0).force(1, 4));
        faultIs("no italics", 1, f -> f.force(7, 0).force(1, 4));
        faultIs("BC at EC + 2", 1, f -> f.force(2, 'f' + 2).force(1, 9));
        faultIs("a head of three", 0, f -> f.head.add(-1));
        faultIs("the least file", 0, MetricFile.plain(0, 0).force(2, 1).force(3, 0));
        faultIs("BC 256, EC 255", 0, MetricFile.plain(256, 0));
        faultIs("BC 257, EC 256", 1, MetricFile.plain(257, 0));
        faultIs("256 characters", 0, MetricFile.plain(0, 256));
        faultIs("EC 256", 1, MetricFile.plain(1, 256));
        MetricFile many = sample();
        for (int k = 1; k < 256; k++) {
            many.pieces.add(MetricFile.word(0, 0, 0, 'a'));
        }
        faultIs("256 pieces", 0, many);
        many.pieces.add(MetricFile.word(0, 0, 0, 'a'));
        faultIs("257 pieces", 1, many);
        MetricFile large = sample();
        for (int k = large.halves()[0]; k < 32767; k++) {
            large.head.add(k);
        }
        faultIs("32767 words", 0, large);
        large.head.add(0);
        faultIs("32768 words", 1, large);
    }

    private static void designSizes() {
        faultIs("design size of 1", 0, f -> f.head.set(1, ONE));
        faultIs("design size below 1", 2, f -> f.head.set(1, ONE - 1));
        faultIs("design size of 0", 2, f -> f.head.set(1, 0));
        faultIs("design size with a sign", 2, f -> f.head.set(1, Integer.MIN_VALUE));
        faultIs("largest design size", 0, f -> f.head.set(1, Integer.MAX_VALUE));
    }

    private static void infos() {
        faultIs("width that is there", 0, f -> f.info('b', 1, 0x11, 4, 0));
        faultIs("width of the first code", 3, MetricFile.plain(0, 256).info(0, 2, 0, 0, 0));
        faultIs("width of the last code", 3, MetricFile.plain(0, 256).info(255, 2, 0, 0, 0));
        faultIs("width that is not there", 3, f -> f.info('b', 2, 0, 0, 0));
        faultIs("height that is not there", 3, f -> f.info('b', 1, 0x20, 0, 0));
        faultIs("depth that is not there", 3, f -> f.info('b', 1, 0x02, 0, 0));
        faultIs("italic that is not there", 3, f -> f.info('b', 1, 0, 8, 0));
        faultIs("no character is not looked at", 0, f -> f.info('e', 0, 255, 255, 255));
        faultIs("no character with tag 2 on itself", 0, f -> f.info('e', 0, 0, 2, 'e'));
        faultIs("last step", 0, f -> f.program('b', 1));
        faultIs("step that is not there", 3, f -> f.program('b', 2));
        faultIs("tag 2", 0, f -> f.info('b', 1, 0, 2, 'c'));
        faultIs("tag 2 to itself", 3, f -> f.info('b', 1, 0, 2, 'b'));
        faultIs("tag 2 to none", 3, f -> f.info('b', 1, 0, 2, 'g'));
        faultIs("tag 2 below BC", 3, f -> f.info('b', 1, 0, 2, 0));
        faultIs("tag 2 to a gap", 3, f -> f.info('b', 1, 0, 2, 'e').info('e', 0, 0, 0, 0));
        faultIs("tag 2 round two", 3, f -> f.info('b', 1, 0, 2, 'c').info('c', 1, 0, 2, 'b'));
        faultIs("tag 2 into a ring", 3, f -> f.info('d', 1, 0, 2, 'e').info('e', 1, 0, 2, 'f').info('f', 1, 0, 2, 'e'));
        faultIs("tag 2 down and up", 0, f -> f.info('d', 1, 0, 2, 'f').info('f', 1, 0, 2, 'b').info('b', 1, 0, 2, 'a'));
        MetricFile chain = MetricFile.plain(0, 256);
        for (int c = 0; c < 255; c++) {
            chain.info(c, 1, 0, 2, c + 1);
        }
        faultIs("a chain of all characters", 0, chain);
        chain.info(255, 1, 0, 2, 0);
        faultIs("a ring of all characters", 3, chain);
        faultIs("last piece", 0, f -> f.info('b', 1, 0, 3, 0));
        faultIs("piece that is not there", 3, f -> f.info('b', 1, 0, 3, 1));
        faultIs("tag 0 with a rest", 0, f -> f.info('b', 1, 0, 0, 255));
    }

    private static void fractions() {
        for (int row = 0; row < 6; row++) {
            int at = row;
            faultIs("row " + row + " of 16", 4, f -> rowOf(f, at).set(rowOf(f, at).size() - 1, 16 * ONE));
            faultIs("row " + row + " below 16", 0, f -> rowOf(f, at).set(rowOf(f, at).size() - 1, 16 * ONE - 1));
            faultIs("row " + row + " of -16", 0, f -> rowOf(f, at).set(rowOf(f, at).size() - 1, -16 * ONE));
            faultIs("row " + row + " under -16", 4, f -> rowOf(f, at).set(rowOf(f, at).size() - 1, -16 * ONE - 1));
        }
        for (int row = 0; row < 4; row++) {
            int at = row;
            faultIs("first of row " + row, 4, f -> rowOf(f, at).set(0, 1));
            faultIs("first of row " + row, 4, f -> rowOf(f, at).set(0, -1));
        }
        faultIs("the first kern need not be 0, but a fraction", 4, f -> {
            f.kerns.set(0, 16 * ONE);
            f.kerns.add(0);
        });
        faultIs("the first parameter is any word", 0, f -> f.parameters.set(0, Integer.MAX_VALUE));
        faultIs("the first parameter is any word", 0, f -> f.parameters.set(0, Integer.MIN_VALUE));
    }

    private static java.util.List<Integer> rowOf(MetricFile f, int row) {
        switch (row) {
            case 0:
                return f.widths;
            case 1:
                return f.heights;
            case 2:
                return f.depths;
            case 3:
                return f.italics;
            case 4:
                return f.kerns;
            default:
                return f.parameters;
        }
    }

    private static void steps() {
        faultIs("sign that is not there", 5, f -> f.step(128, 'g', KERN, 0));
        faultIs("sign in a gap", 5, f -> f.info('e', 0, 0, 0, 0).step(128, 'e', KERN, 0));
        faultIs("kern that is not there", 5, f -> f.step(128, 'b', KERN, 1));
        faultIs("kern far behind", 5, f -> f.step(128, 'b', 255, 255));
        faultIs("kern of the second 256", 5, f -> f.step(128, 'b', KERN + 1, 0));
        faultIs("ligature that is not there", 5, f -> f.step(128, 'b', 0, 'g'));
        for (int o = 0; o < 128; o++) {
            boolean good = o <= 3 || o >= 5 && o <= 7 || o == 11;
            int deed = o;
            faultIs("deed " + o, good ? 0 : 5, f -> f.step(128, 'b', deed, 'c'));
        }
        faultIs("none behind the last", 5, f -> f.step(0, 'b', KERN, 0));
        faultIs("passes over all", 5, f -> f.step(1, 'b', KERN, 0).step(128, 'b', KERN, 0));
        faultIs("passes over to the last", 0,
            f -> f.step(1, 'b', KERN, 0).step(128, 'b', KERN, 0).step(128, 'b', KERN, 0));
        faultIs("127 passed over, not there", 5, f -> f.step(127, 'b', KERN, 0));
        faultIs("jump to the last", 0, f -> f.step(129, 0, 0, 2));
        faultIs("jump behind the last", 5, f -> f.step(129, 0, 0, 3));
        faultIs("jump far behind", 5, f -> f.step(254, 0, 1, 0));
        faultIs("last with 255 jumps too", 5, f -> f.step(255, 0, 255, 255));
        MetricFile border = MetricFile.plain('a', 2).step(255, 200, 0, 0).step(128, 200, 0, 'a');
        faultIs("the boundary is a sign", 0, border);
        faultIs("but comes by no ligature", 5, MetricFile.plain('a', 2).step(255, 200, 0, 0).step(128, 'a', 0, 200));
        faultIs("254 is no boundary", 5, MetricFile.plain('a', 2).step(254, 200, 0, 0).step(128, 200, 0, 'a'));
        faultIs("first with 255 jumps too", 5, MetricFile.plain('a', 2).step(255, 200, 0, 2).step(128, 'a', 0, 'a'));
        faultIs("a single step of 255", 0, MetricFile.plain('a', 2).step(255, 200, 0, 0));
        faultIs("the second is no boundary", 5,
            MetricFile.plain('a', 2).step(128, 'a', 0, 'a').step(255, 200, 0, 0).step(128, 200, 0, 'a'));
        MetricFile far = sample();
        for (int k = 0; k < 300; k++) {
            far.kerns.add(k);
        }
        faultIs("kern 300", 0, far.step(128, 'b', KERN + 1, 44));
        faultIs("kern 301", 5, far.step(128, 'b', KERN + 1, 45));
    }

    private static void farSteps() {
        MetricFile far = MetricFile.plain('a', 3).step(255, 'c', 1, 44).program('a', 0);
        for (int k = 1; k <= 299; k++) {
            far.step(128, 'a', 0, 'a');
        }
        faultIs("jump to 300 of 300", 5, far);
        far.step(128, 'b', 0, 'c');
        faultIs("jump to 300 of 301", 0, far);
        sets(with(far, 65536), "ab", "(c)");
        sets(with(far.step(255, 0, 1, 44), 65536), "bb", "(c)b");
    }

    private static void pieces() {
        faultIs("all parts there", 0, f -> f.pieces.set(0, MetricFile.word('a', 'b', 'c', 'd')));
        faultIs("first part", 6, f -> f.pieces.set(0, MetricFile.word('g', 0, 0, 'd')));
        faultIs("second part", 6, f -> f.pieces.set(0, MetricFile.word(0, 'g', 0, 'd')));
        faultIs("third part", 6, f -> f.pieces.set(0, MetricFile.word(0, 0, 'g', 'd')));
        faultIs("fourth part", 6, f -> f.pieces.set(0, MetricFile.word(0, 0, 0, 'g')));
        faultIs("fourth part 0", 6, f -> f.pieces.set(0, MetricFile.word('a', 'a', 'a', 0)));
        faultIs("the last piece", 6, f -> f.pieces.add(MetricFile.word(0, 0, 0, 0)));
        MetricFile zero = MetricFile.plain(0, 1);
        zero.pieces.add(0);
        faultIs("character 0 as the fourth part", 0, zero);
    }

    /** Every fault from the last to the first laid on one file: the first one is told each time. */
    private static void faultOrder() {
        MetricFile f = sample().step(128, 'b', 1, 'a').program('a', 2);
        faultIs("7", 7, f);
        f.pieces.add(0);
        faultIs("6 ahead of 7", 6, f);
        f.step(0, 'b', 0, 'a');
        faultIs("5 ahead of 6", 5, f);
        f.parameters.add(16 * ONE);
        faultIs("4 ahead of 5", 4, f);
        f.info('f', 255, 0, 0, 0);
        faultIs("3 ahead of 4", 3, f);
        f.head.set(1, 0);
        faultIs("2 ahead of 3", 2, f);
        f.force(1, 1);
        faultIs("1 ahead of 2", 1, f);
    }

    private static void endlessPrograms() {
        faultIs("1: a b to a b", 7, f -> f.step(128, 'b', 1, 'a').program('a', 2));
        faultIs("1: a b to c b", 0, f -> f.step(128, 'b', 1, 'c').program('a', 2));
        faultIs("2: a b to a b", 7, f -> f.step(128, 'b', 2, 'b').program('a', 2));
        faultIs("2: a b to a c", 0, f -> f.step(128, 'b', 2, 'c').program('a', 2));
        faultIs("3: b between a and b", 7, f -> f.step(128, 'b', 3, 'b').program('a', 2));
        faultIs("3: a between a and b, seen from it", 7, f -> f.step(128, 'b', 3, 'a').program('a', 2));
        faultIs("3: c between a and b", 0, f -> f.step(128, 'b', 3, 'c').program('a', 2));
        faultIs("7: a between a and b", 7, f -> f.step(128, 'b', 7, 'a').program('a', 2));
        faultIs("7: b between a and b", 0, f -> f.step(128, 'b', 7, 'b').program('a', 2));
        for (int o : new int[] {0, 5, 6, 11}) {
            faultIs(o + " goes behind", 0, f -> f.step(128, 'b', o, 'a').program('a', 2));
            faultIs(o + " goes behind", 0, f -> f.step(128, 'a', o, 'a').program('a', 2));
        }
        faultIs("2 round a later program", 7,
            f -> f.step(0, 'b', 2, 'c').step(128, 'c', 2, 'b').program('f', 2).program('b', 0).program('c', 0));
        faultIs("round two pairs", 7,
            f -> f.step(128, 'b', 1, 'c').step(128, 'b', 1, 'a').program('a', 2).program('c', 3));
        faultIs("a step that an earlier one hides", 0,
            f -> f.step(0, 'b', 0, 'a').step(128, 'b', 1, 'a').program('a', 2));
        faultIs("a step that is passed over", 0,
            f -> f.step(1, 'c', 0, 'a').step(128, 'b', 1, 'a').step(128, 'd', 0, 'a').program('a', 2));
        faultIs("a step that no program has", 0, f -> f.step(128, 'b', 1, 'a'));
        faultIs("behind a jump", 7, f -> f.step(200, 0, 0, 3).step(128, 'b', 1, 'a').program('a', 2));
        faultIs("behind two jumps", 0,
            f -> f.step(200, 0, 0, 3).step(200, 0, 0, 4).step(128, 'b', 1, 'a').program('a', 2));
        faultIs("a jump ends a program", 0,
            f -> f.step(0, 'c', 0, 'a').step(200, 'b', 0, 4).step(128, 'b', 1, 'a').program('a', 2));
        MetricFile right = MetricFile.plain('a', 2).step(255, 200, 0, 0).step(128, 200, 1, 'a').program('a', 1);
        faultIs("round the boundary", 7, right);
        MetricFile left = MetricFile.plain('a', 2).step(128, 'a', 2, 'a').step(255, 0, 0, 0);
        faultIs("round the left edge", 7, left);
        MetricFile leftOnce = MetricFile.plain('a', 2).step(128, 'a', 2, 'b').step(255, 0, 0, 0);
        faultIs("the left edge once", 0, leftOnce);
        MetricFile both = MetricFile.plain('a', 2).step(255, 200, 0, 0).step(128, 200, 3, 'a').step(255, 0, 0, 1);
        faultIs("between both edges", 0, both);
        faultIs("3: back behind what came of the middle", 7,
            f -> f.step(128, 'b', 3, 'c').step(128, 'c', 0, 'a').program('a', 2).steps.set(2,
                MetricFile.word(0, 'b', 3, 'c')));
    }

    /** c comes between a and b; what the looking at a and c then leaves ahead of b must be told rightly. */
    private static void middlesOfPairs() {
        for (int deed : new int[] {0, 6, 5, 11, 1, 7, KERN}) {
            MetricFile f = MetricFile.plain('a', 5);
            f.kerns.add(5);
            // a b to a c b; if the deed for a c leaves a ahead of b, that is a b again, but c b is not.
            f.step(0, 'b', 3, 'c').step(128, 'c', deed, deed == KERN ? 0 : deed == 1 || deed == 7 ? 'e' : 'a');
            f.program('a', 0);
            faultIs("middle by " + deed, deed == 0 || deed == 6 ? 7 : 0, f);
            // Now c b leads back to a b as well.
            f.step(128, 'b', 1, 'a').program('c', 2);
            faultIs("middle by " + deed + ", c b back to a b", 7, f);
        }
        MetricFile second = MetricFile.plain('a', 5);
        second.step(0, 'b', 3, 'c').step(0, 'c', 2, 'd').step(128, 'd', 0, 'e').step(128, 'b', 1, 'a');
        faultIs("a c to a d to e, e b by no step", 0, second.program('a', 0));
        faultIs("a c to a d to e, e b to a b", 7, second.program('e', 3));
    }

    /** What one file left behind is not seen in the next one. */
    private static void loadsBehindOneAnother() {
        FontDesk desk = new FontDesk();
        MetricFile endless = MetricFile.plain('a', 3).step(128, 'b', 1, 'a').program('a', 0);
        MetricFile other = MetricFile.plain('a', 3).step(128, 'c', 1, 'b').program('a', 0);
        MetricFile wide = MetricFile.plain(0, 256).step(128, 'b', 1, 'd').program('a', 0).program(255, 0);
        MetricFile bare = MetricFile.plain('a', 3);
        int fonts = 0;
        for (MetricFile file : java.util.List.of(other, endless, other, bare, endless, wide, other, endless, wide)) {
            MetricFile.draft(desk, file.bytes());
            int number = fonts;
            Due.is("one behind another", file == endless ? Due.ARGUMENT : number, () -> desk.load(9));
            Due.is("its fault", file == endless ? 7 : 0, () -> desk.fault());
            fonts += file == endless ? 0 : 1;
        }
    }

    /** Chains of pairs that are far longer than calls could stand open. */
    private static void longChainsOfPairs() {
        MetricFile chain = MetricFile.plain(0, 256);
        for (int c = 0; c < 255; c++) {
            chain.step(128, 0, 1, c + 1).program(c, c);
        }
        faultIs("255 pairs on", 0, chain);
        chain.step(128, 0, 1, 7).program(255, 255);
        faultIs("and back", 7, chain);
        MetricFile turns = MetricFile.plain(0, 256);
        for (int c = 0; c < 255; c++) {
            turns.step(128, c, 2, c + 1);
            turns.steps.set(c, MetricFile.word(c == 254 ? 128 : 0, c, 2, c + 1));
        }
        for (int c = 0; c < 256; c++) {
            turns.program(c, 0);
        }
        faultIs("all pairs on", 0, turns);
    }

    // ---- promise 4

    private static void fault() {
        FontDesk desk = new FontDesk();
        Due.is("empty draft", Due.ARGUMENT, () -> desk.load(0));
        Due.is("fault 1", 1, () -> desk.fault());
        MetricFile bad = sample();
        bad.head.set(1, 0);
        MetricFile.draft(desk, bad.bytes());
        Due.is("no load", Due.STATE, () -> desk.load(-1));
        Due.is("is none", 1, () -> desk.fault());
        Due.is("bad design size", Due.ARGUMENT, () -> desk.load(0));
        Due.is("fault 2", 2, () -> desk.fault());
        Due.is("told again", 2, () -> desk.fault());
        MetricFile.draft(desk, sample().bytes());
        Due.is("good", 0, () -> desk.load(0));
        Due.is("no fault", 0, () -> desk.fault());
        Due.is("a word", Due.INDEX, () -> desk.set(4));
        Due.is("no fault", 0, () -> desk.fault());
    }

    // ---- promise 5

    private static void metric() {
        MetricFile file = sample().info('e', 1, 0x11, 4 + 2, 'f').info('f', 1, 0, 0, 9).info('d', 0, 0, 0, 0);
        file.steps.set(1, MetricFile.word(128, 'c', 0, 'b'));
        file.info('b', 1, 0x10, 3, 0).info('c', 1, 0x01, 1, 1);
        FontDesk desk = with(file, 655361);
        long[] e = {327680, 163840, 81920, -40961, 2, 'f'};
        for (int what = 0; what < 6; what++) {
            int w = what;
            Due.is("e, " + what, e[what], () -> desk.metric(0, 'e', w));
        }
        Due.is("height of b", 163840, () -> desk.metric(0, 'b', 1));
        Due.is("depth of b", 0, () -> desk.metric(0, 'b', 2));
        Due.is("height of c", 0, () -> desk.metric(0, 'c', 1));
        Due.is("depth of c", 81920, () -> desk.metric(0, 'c', 2));
        Due.is("tag 3", 3, () -> desk.metric(0, 'b', 4));
        Due.is("rest of tag 3", 0, () -> desk.metric(0, 'b', 5));
        Due.is("tag 1", 1, () -> desk.metric(0, 'c', 4));
        Due.is("rest of tag 1", 1, () -> desk.metric(0, 'c', 5));
        Due.is("tag 0", 0, () -> desk.metric(0, 'f', 4));
        Due.is("no rest with tag 0", 0, () -> desk.metric(0, 'f', 5));
        int[][] wrong = {{-1, 'e', 0}, {1, 'e', 0}, {32, 'e', 0}, {Integer.MAX_VALUE, 'e', 0}, {0, 'd', 0},
            {0, 'a' - 1, 0}, {0, 'g', 0}, {0, -1, 0}, {0, 256, 0}, {0, 'e' + 256, 0}, {0, Integer.MIN_VALUE, 0},
            {0, 'e', -1}, {0, 'e', 6}, {0, 'e', Integer.MAX_VALUE}};
        for (int[] w : wrong) {
            Due.is("metric" + java.util.Arrays.toString(w), Due.INDEX, () -> desk.metric(w[0], w[1], w[2]));
        }
        metricEdges();
    }

    private static void metricEdges() {
        MetricFile file = sample();
        file.widths.set(1, 16 * ONE - 1);
        file.heights.set(1, -16 * ONE);
        file.info('b', 1, 0x10, 0, 0);
        FontDesk desk = with(file, 134217727);
        Due.is("largest width", 2147483504, () -> desk.metric(0, 'b', 0));
        Due.is("least height", -2147483632, () -> desk.metric(0, 'b', 1));
        FontDesk one = with(file, 1);
        Due.is("rounded down", 15, () -> one.metric(0, 'b', 0));
        file.widths.set(1, -1);
        FontDesk below = with(file, 1);
        Due.is("rounded down below 0", -1, () -> below.metric(0, 'b', 0));
    }

    // ---- promise 6

    private static void parameter() {
        MetricFile file = sample();
        file.parameters.set(0, -17);
        file.parameters.add(-ONE / 3);
        FontDesk desk = with(file, 3 * 65536);
        Due.is("slant, rounded down", -2, () -> desk.parameter(0, 1));
        Due.is("second", 65535, () -> desk.parameter(0, 2));
        Due.is("third, rounded down", -65536, () -> desk.parameter(0, 3));
        Due.is("less", 0, () -> desk.parameter(0, 4));
        Due.is("far less", 0, () -> desk.parameter(0, Integer.MAX_VALUE));
        Due.is("k 0", Due.INDEX, () -> desk.parameter(0, 0));
        Due.is("k below", Due.INDEX, () -> desk.parameter(0, Integer.MIN_VALUE));
        Due.is("font 1", Due.INDEX, () -> desk.parameter(1, 1));
        Due.is("font -1", Due.INDEX, () -> desk.parameter(-1, 1));
        file.parameters.set(0, Integer.MIN_VALUE);
        FontDesk steep = with(file, 1);
        Due.is("any word", -134217728, () -> steep.parameter(0, 1));
        FontDesk bare = with(MetricFile.plain('a', 1), 0);
        Due.is("none at all", 0, () -> bare.parameter(0, 1));
    }

    // ---- promise 7

    private static void setPlain() {
        FontDesk desk = with(sample(), 655360);
        sets(desk, "", "");
        sets(desk, "a", "a");
        sets(desk, "ab", "a<-65536>b");
        sets(desk, "acb", "(d)b");
        sets(desk, "aab", "aa<-65536>b");
        sets(desk, "ba", "ba");
        Due.is("the draft is used up", 0, () -> desk.count(1));
        MetricFile other = sample().info('a', 1, 0, 0, 0);
        MetricFile.draft(desk, other.bytes());
        Due.is("a second font", 1, () -> desk.load(5));
        sets(desk, "ab", "a<-65536>b");
        word(desk, "ab");
        Due.is("each font by its own programs", 2, () -> desk.set(1));
    }

    private static void setPrograms() {
        MetricFile f = MetricFile.plain('a', 6);
        f.kerns.addAll(java.util.List.of(16 * 1, 16 * 2, 16 * 3, 16 * 4));
        f.step(2, 'a', KERN, 0)         // 0: then 3
            .step(0, 'b', KERN, 1)      // 1
            .step(200, 'c', KERN, 1)    // 2: a jump, also for one who comes from 1
            .step(128, 'a', KERN, 2)    // 3: hidden by 0 for a; its end ends the program
            .step(128, 'd', KERN, 3)    // 4
            .step(129, 'a', 0, 1)       // 5: jump to 1
            .step(129, 'a', 0, 5);      // 6: jump to a jump
        f.steps.set(2, MetricFile.word(200, 'c', 0, 4));
        f.program('a', 0).program('b', 1).program('c', 5).program('d', 6).program('e', 2).program('f', 3);
        FontDesk desk = with(f, 65536);
        sets(desk, "aa", "a<1>a");
        sets(desk, "ab", "ab");
        sets(desk, "ad", "ad");
        sets(desk, "bb", "b<2>b");
        sets(desk, "bc", "bc");
        sets(desk, "bd", "bd");
        sets(desk, "cb", "c<2>b");
        sets(desk, "cd", "cd");
        sets(desk, "db", "db");
        sets(desk, "dd", "dd");
        sets(desk, "ed", "e<4>d");
        sets(desk, "ec", "ec");
        sets(desk, "fa", "f<3>a");
        sets(desk, "fd", "fd");
    }

    private static void setLigatures() {
        String[] wants = {"(c)d", "(c)<1>b<9>d", "a<5>(c)d", "a<5>(c)<1>b<9>d", null, "(c)b<9>d", "a(c)d",
            "a(c)<1>b<9>d", null, null, null, "a(c)b<9>d"};
        for (int o = 0; o < wants.length; o++) {
            if (wants[o] == null) {
                continue;
            }
            MetricFile f = MetricFile.plain('a', 4);
            f.kerns.addAll(java.util.List.of(16 * 1, 16 * 5, 16 * 9));
            f.step(0, 'b', o, 'c').step(128, 'c', KERN, 1);
            f.step(128, 'b', KERN, 0).step(128, 'd', KERN, 2);
            f.program('a', 0).program('b', 3).program('c', 2);
            sets(with(f, 65536), "abd", wants[o]);
        }
        MetricFile chain = MetricFile.plain('a', 4);
        chain.step(128, 'b', 0, 'c').step(128, 'd', 0, 'a').program('a', 0).program('c', 1);
        FontDesk desk = with(chain, 65536);
        sets(desk, "abd", "(a)");
        sets(desk, "abdb", "(c)");
        sets(desk, "abdbdbd", "(a)");
    }

    private static void setEdges() {
        MetricFile f = MetricFile.plain('a', 5);
        f.kerns.addAll(java.util.List.of(16 * 1, 16 * 2, 16 * 3));
        f.step(255, 200, 0, 0)          // the boundary is no character
            .step(0, 'a', KERN, 0)      // 1: the left program
            .step(0, 'b', 0, 'c')
            .step(0, 'd', 1, 'e')
            .step(128, 200, KERN, 1)
            .step(128, 200, KERN, 2)    // 5: of a and e
            .step(128, 200, 0, 'c')     // 6: of c
            .step(128, 200, 2, 'a')     // 7: of d
            .step(255, 0, 0, 1);
        f.program('a', 5).program('e', 5).program('c', 6).program('d', 7);
        FontDesk desk = with(f, 65536);
        sets(desk, "", "<2>");
        sets(desk, "a", "<1>a<3>");
        sets(desk, "b", "(c)");
        sets(desk, "bb", "(c)b");
        sets(desk, "c", "(c)");
        sets(desk, "ac", "<1>a(c)");
        // The right edge gives way to a, behind which then no edge is left.
        sets(desk, "ad", "<1>ad(a)");
        sets(desk, "d", "(e)d(a)");
        sets(desk, "e", "e<3>");

        MetricFile twin = MetricFile.plain('a', 2).step(255, 'b', 0, 0).step(128, 'b', KERN, 0).program('a', 1);
        twin.kerns.add(16);
        FontDesk both = with(twin, 65536);
        sets(both, "a", "a<1>");
        sets(both, "ab", "a<1>b");
        sets(both, "aa", "aa<1>");
        twin.steps.set(0, MetricFile.word(254, 'b', 0, 1));
        sets(with(twin, 65536), "a", "a");

        MetricFile leftJump = MetricFile.plain('a', 2).step(128, 'a', KERN, 0).step(200, 0, 0, 0).step(255, 0, 0, 1);
        leftJump.kerns.add(16);
        sets(with(leftJump, 65536), "a", "a");
        leftJump.steps.set(2, MetricFile.word(255, 0, 0, 0));
        sets(with(leftJump, 65536), "a", "<1>a");
        leftJump.steps.set(2, MetricFile.word(254, 0, 0, 0));
        sets(with(leftJump, 65536), "a", "a");
    }

    private static void setWrong() {
        FontDesk desk = with(sample().info('e', 0, 0, 0, 0), 65536);
        for (int font : new int[] {-1, 1, 32, Integer.MIN_VALUE, Integer.MAX_VALUE}) {
            word(desk, "ab");
            Due.is("set(0)", 3, () -> desk.set(0));
            word(desk, "ab");
            Due.is("set(" + font + ")", Due.INDEX, () -> desk.set(font));
            Due.is("used up", 0, () -> desk.count(1));
            Due.is("no items", -1, () -> desk.item(0, 0));
            Due.is("no width", 0, () -> desk.width());
        }
        for (String text : new String[] {"e", "abe", "eab", "g", "`", "\0", "a\u00ff"}) {
            word(desk, "ab");
            Due.is("set(0)", 3, () -> desk.set(0));
            word(desk, text);
            Due.is("no character", Due.ARGUMENT, () -> desk.set(0));
            Due.is("used up", 0, () -> desk.count(1));
            Due.is("no items", -1, () -> desk.item(0, 0));
            Due.is("no width", 0, () -> desk.width());
        }
        word(desk, "b".repeat(200));
        Due.is("200 bytes", 200, () -> desk.set(0));
        word(desk, "b".repeat(201));
        Due.is("201 bytes", Due.ARGUMENT, () -> desk.set(0));
        Due.is("no items", -1, () -> desk.item(0, 0));
        word(desk, "b".repeat(201));
        Due.is("201 bytes of no font", Due.INDEX, () -> desk.set(1));
    }

    private static void setLimits() {
        signsAtTheLimit(tower(9), "", 998);
        signsAtTheLimit(withLastKern(tower(8), 8), "", 998);
        // The left edge goes with q: one sign less is there.
        MetricFile edgeGoes = tower(9).step(128, 'q', 0, 't').step(255, 0, 0, 9);
        signsAtTheLimit(edgeGoes, "q", 999);
        standsAtTheLimit();
    }

    /** Signs a .. t; ap becomes a, so many signs more, and p. */
    private static MetricFile tower(int signs) {
        MetricFile f = MetricFile.plain('a', 20);
        f.kerns.add(16);
        for (int k = 0; k < signs; k++) {
            f.step(128, 'p', 7, 'b' + k).program('a' + k, k);
        }
        return f;
    }

    private static MetricFile withLastKern(MetricFile tower, int signs) {
        return tower.step(128, 'p', KERN, 0).program('a' + signs, signs);
    }

    /** For a tower where ap becomes eleven: 990, eight more and the edges are just as many as there may be. */
    private static void signsAtTheLimit(MetricFile tower, String before, long items) {
        FontDesk desk = with(tower, 65536);
        word(desk, before + "ap".repeat(90) + "p".repeat(8));
        Due.is("1000 signs and kerns", items, () -> desk.set(0));
        Due.is("the last one", 'p', () -> desk.item((int) items - 1, 1));
        word(desk, before + "ap".repeat(90) + "p".repeat(9));
        Due.is("1001 signs and kerns", Due.STATE, () -> desk.set(0));
        Due.is("no items", -1, () -> desk.item(0, 0));
        Due.is("no width", 0, () -> desk.width());
        Due.is("used up", 0, () -> desk.count(1));
        FontDesk fresh = with(tower, 65536);
        word(fresh, before + "ap".repeat(90) + "p".repeat(9));
        Due.is("1001 at once", Due.STATE, () -> fresh.set(0));
        word(fresh, before + "ap".repeat(90) + "p".repeat(8));
        Due.is("1000 behind it", items, () -> fresh.set(0));
    }

    private static void standsAtTheLimit() {
        MetricFile f = MetricFile.plain(0, 110);
        for (int c = 0; c < 99; c++) {
            f.step(128, 105, 1, c + 1).program(c, c);
        }
        FontDesk desk = with(f, 65536);
        // Between 0 and 105 it stands 100 times, 0 becoming 1, 2, .. 99; elsewhere once: 99 * 100 + 98 + 2.
        putPairs(desk, 99);
        Due.is("10000 stands", 198, () -> desk.set(0));
        putPairs(desk, 99);
        desk.put(105, 1);
        Due.is("10001 stands", Due.STATE, () -> desk.set(0));
        Due.is("no items", -1, () -> desk.item(0, 0));
        putPairs(desk, 100);
        Due.is("10101 stands", Due.STATE, () -> desk.set(0));
        putPairs(desk, 1);
        Due.is("and again few", 2, () -> desk.set(0));
        Due.is("0 became 99", 99, () -> desk.item(0, 1));
    }

    private static void putPairs(FontDesk desk, int pairs) {
        for (int k = 0; k < pairs; k++) {
            desk.put(105, 2);
        }
    }

    // ---- promise 8

    private static void item() {
        FontDesk desk = with(sample(), 655360);
        word(desk, "abac");
        Due.is("four items", 4, () -> desk.set(0));
        int[][] want = {{0, 'a'}, {2, -65536}, {0, 'b'}, {1, 'd'}};
        for (int k = 0; k < 4; k++) {
            int at = k;
            Due.is("kind " + k, want[k][0], () -> desk.item(at, 0));
            Due.is("code " + k, want[k][1], () -> desk.item(at, 1));
        }
        int[][] wrong = {{4, 0}, {4, 1}, {-1, 0}, {-1, 1}, {1000, 0}, {Integer.MAX_VALUE, 1}, {Integer.MIN_VALUE, 0},
            {0, -1}, {0, 2}, {0, Integer.MAX_VALUE}, {0, Integer.MIN_VALUE}};
        for (int[] w : wrong) {
            Due.is("item" + java.util.Arrays.toString(w), -1, () -> desk.item(w[0], w[1]));
        }
        MetricFile.draft(desk, sample().bytes());
        Due.is("a load", 1, () -> desk.load(1));
        Due.is("leaves the word", -65536, () -> desk.item(1, 1));
        word(desk, "b");
        Due.is("a shorter word", 1, () -> desk.set(0));
        Due.is("leaves no more of the longer one", -1, () -> desk.item(1, 0));
    }

    // ---- promise 9

    private static void width() {
        FontDesk desk = with(sample(), 655360);
        word(desk, "abac");
        Due.is("four items", 4, () -> desk.set(0));
        Due.is("three signs and a kern", 3 * 327680 - 65536, () -> desk.width());
        Due.is("asked again", 3 * 327680 - 65536, () -> desk.width());
        Due.is("the empty word", 0, () -> desk.set(0));
        Due.is("has no width", 0, () -> desk.width());
        MetricFile wide = MetricFile.plain('a', 1);
        wide.widths.set(1, 16 * ONE - 1);
        FontDesk far = with(wide, 134217727);
        word(far, "a".repeat(200));
        Due.is("200 wide ones", 200, () -> far.set(0));
        Due.is("beyond an int", 200 * 2147483504L, () -> far.width());
        wide.widths.set(1, -16 * ONE);
        FontDesk back = with(wide, 134217727);
        word(back, "a".repeat(200));
        Due.is("200 negative ones", 200, () -> back.set(0));
        Due.is("below an int", 200 * -2147483632L, () -> back.width());
        wide.widths.set(1, ONE / 2 + 1);
        FontDesk odd = with(wide, 1);
        word(odd, "aaa");
        Due.is("three", 3, () -> odd.set(0));
        Due.is("each rounded down by itself", 0, () -> odd.width());
    }

    // ---- promise 10

    private static void count() {
        MetricFile file = sample().info('e', 0, 1, 1, 1);
        FontDesk desk = with(file, 99);
        long[] want = {1, 0, file.halves()[0], 5, 99, -1};
        for (int what = 0; what < 6; what++) {
            int w = what;
            Due.is("count(" + what + ")", want[what], () -> desk.count(w));
        }
        for (int what : new int[] {-1, 6, Integer.MIN_VALUE, Integer.MAX_VALUE}) {
            Due.is("count(" + what + ")", -1, () -> desk.count(what));
            Due.is("count(" + what + ") without fonts", -1, () -> new FontDesk().count(what));
        }
        MetricFile bordered = MetricFile.plain(250, 6).step(255, 7, 0, 0);
        MetricFile.draft(desk, bordered.bytes());
        Due.is("bytes drafted", bordered.bytes().length, () -> desk.count(1));
        Due.is("another", 1, () -> desk.load(0));
        long[] latest = {2, 0, bordered.halves()[0], 6, 655360, 7};
        for (int what = 0; what < 6; what++) {
            int w = what;
            Due.is("latest: count(" + what + ")", latest[what], () -> desk.count(w));
        }
        Due.is("a refused one", Due.ARGUMENT, () -> desk.load(1));
        for (int what = 0; what < 6; what++) {
            int w = what;
            Due.is("after it: count(" + what + ")", latest[what], () -> desk.count(w));
        }
        FontDesk all = with(MetricFile.plain(0, 256), 1);
        Due.is("all characters", 256, () -> all.count(3));
        MetricFile.draft(desk, MetricFile.plain(1, 0).step(255, 0, 0, 0).bytes());
        Due.is("a third", 2, () -> desk.load(0));
        Due.is("no characters", 0, () -> desk.count(3));
        Due.is("the boundary 0", 0, () -> desk.count(5));
    }
}
