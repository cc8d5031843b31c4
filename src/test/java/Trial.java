import java.util.function.Consumer;

/** What the tests of the sentences have in common: a sample file, loads that are refused or not, words set. */
final class Trial {
    static final int ONE = MetricFile.ONE;
    static final int KERN = 128;

    static FontDesk with(MetricFile file, int z) {
        FontDesk desk = new FontDesk();
        MetricFile.draft(desk, file.bytes());
        Due.is("load of a good file", 0, () -> desk.load(z));
        return desk;
    }

    /** Characters a .. f of half a size, a with a program; a height, a depth, an italic, a kern, a piece, parameters. */
    static MetricFile sample() {
        MetricFile f = MetricFile.plain('a', 6);
        f.head.set(0, 0x12345678);
        f.heights.add(ONE / 4);
        f.depths.add(ONE / 8);
        f.italics.add(-ONE / 16);
        f.kerns.add(-ONE / 10);
        f.pieces.add(MetricFile.word(0, 'a', 0, 'b'));
        f.parameters.add(ONE / 4);
        f.parameters.add(ONE / 3);
        f.step(0, 'b', KERN, 0).step(128, 'c', 0, 'd');
        return f.program('a', 0);
    }

    /** The fault of a file, 0 for one that is taken; whatever comes of it, the draft is used up. */
    static void faultIs(String what, int want, byte[] bytes) {
        FontDesk desk = new FontDesk();
        MetricFile.draft(desk, bytes);
        Due.is(what + ": load", want == 0 ? 0 : Due.ARGUMENT, () -> desk.load(65536));
        Due.is(what + ": fault", want, () -> desk.fault());
        Due.is(what + ": fonts", want == 0 ? 1 : 0, () -> desk.count(0));
        Due.is(what + ": draft", 0, () -> desk.count(1));
    }

    static void faultIs(String what, int want, MetricFile file) {
        faultIs(what, want, file.bytes());
    }

    /** The fault of the sample behind a change. */
    static void faultIs(String what, int want, Consumer<MetricFile> change) {
        MetricFile file = sample();
        change.accept(file);
        faultIs(what, want, file);
    }

    /** Lays a fault on the file, at the first place where it can be, or at the last. */
    static void spoil(MetricFile f, int fault, boolean last) {
        switch (fault) {
            case 1:
                f.force(last ? 11 : 0, 99);
                break;
            case 2:
                f.head.set(1, 0);
                break;
            case 3:
                f.info(last ? 'f' : 'b', 99, 0, 0, 0);
                break;
            case 4:
                if (last) {
                    f.parameters.add(16 * ONE);
                } else {
                    f.widths.set(0, 1);
                }
                break;
            case 5:
                if (last) {
                    f.step(0, 'b', 0, 'a');
                } else {
                    f.steps.set(0, MetricFile.word(128, 'z', 0, 'a'));
                }
                break;
            case 6:
                f.pieces.add(last ? f.pieces.size() : 0, 0);
                break;
            default:
                f.step(128, 'b', 1, 'a').program('a', f.steps.size() - 1);
                break;
        }
    }

    static void word(FontDesk desk, String text) {
        for (int i = 0; i < text.length(); i++) {
            desk.put(text.charAt(i), 1);
        }
    }

    /** Sets a word and holds its items against: a character, (a) for one by a ligature, <1> for a kern. */
    static void sets(FontDesk desk, String text, String want) {
        sets(desk, 0, text, want);
    }

    static void sets(FontDesk desk, int font, String text, String want) {
        word(desk, text);
        long items = Due.of(() -> desk.set(font));
        StringBuilder got = new StringBuilder(items > 1000 ? "an exception" : "");
        for (int k = 0; k < items && k < 1000; k++) {
            got.append(told(desk.item(k, 0), desk.item(k, 1)));
        }
        Due.same("'" + text + "' set as " + got + ", due is " + want + ":", 1, got.toString().equals(want) ? 1 : 0);
        if (items < 1000) {
            Due.is("'" + text + "', behind the last", -1, () -> desk.item((int) items, 0));
        }
    }

    private static String told(int kind, int code) {
        return kind == 0 ? "" + (char) code : kind == 1 ? "(" + (char) code + ")" : kind == 2 ? "<" + code + ">" : "?";
    }

    static void sets(MetricFile file, String text, String want) {
        sets(with(file, 65536), text, want);
    }

    /** Nothing is left of the word set before. */
    static void nothingSet(FontDesk desk) {
        Due.is("the draft is used up", 0, () -> desk.count(1));
        Due.is("no item", -1, () -> desk.item(0, 0));
        Due.is("no item's code", -1, () -> desk.item(0, 1));
        Due.is("no width", 0, () -> desk.width());
    }
}
