/** The promises 7 to 10: set, item, width and count. */
final class WordSentences {
    private static final int ONE = Trial.ONE;
    private static final int KERN = Trial.KERN;
    private static final int LEAST = Integer.MIN_VALUE;
    private static final int MOST = Integer.MAX_VALUE;

    static void all() {
        setsAWord();
        setInNoFont();
        setOfNoWord();
        tooManySigns();
        edgesCount();
        tooManyStands();
        standsThatCount();
        items();
        noItems();
        widths();
        countsOfTheDesk();
        countsOfTheLatest();
        noCounts();
    }

    // ---- promise 7

    private static void setsAWord() {
        Doc.says("The draft, used up whatever comes of it, is a word that is set in a font: how many ITEMS there are: "
            + "characters, ligatures and kerns, in order.");
        FontDesk desk = Trial.with(Trial.sample(), 655360);
        String[] texts = {"", "a", "ab", "acb", "aab", "ba", "abac"};
        String[] wants = {"", "a", "a<-65536>b", "(d)b", "aa<-65536>b", "ba", "a<-65536>b(d)"};
        int[] items = {0, 1, 3, 2, 4, 2, 4};
        for (int k = 0; k < texts.length; k++) {
            Trial.sets(desk, texts[k], wants[k]);
            Due.is("used up", 0, () -> desk.count(1));
            Trial.word(desk, texts[k]);
            Due.is("items of " + texts[k], items[k], () -> desk.set(0));
        }
        MetricFile other = Trial.sample().info('a', 1, 0, 0, 0);
        MetricFile.draft(desk, other.bytes());
        Due.is("a second font", 1, () -> desk.load(5));
        Trial.sets(desk, 0, "ab", "a<-65536>b");
        Trial.sets(desk, 1, "ab", "ab");
        Trial.sets(desk, 0, "ab", "a<-65536>b");
    }

    private static void setInNoFont() {
        Doc.says("IndexOutOfBoundsException if there is no such font;");
        FontDesk desk = Trial.with(Trial.sample(), 65536);
        for (int font : new int[] {-1, 1, 31, 32, 256, LEAST, MOST}) {
            for (String text : new String[] {"", "ab", "g", "a".repeat(201)}) {
                Trial.sets(desk, "ab", "a<-6554>b");
                Trial.word(desk, text);
                Due.is("set(" + font + ") of " + text.length(), Due.INDEX, () -> desk.set(font));
                Trial.nothingSet(desk);
            }
        }
        FontDesk none = new FontDesk();
        none.put('a', 1);
        Due.is("no fonts", Due.INDEX, () -> none.set(0));
        Trial.nothingSet(none);
    }

    private static void setOfNoWord() {
        Doc.says("IllegalArgumentException if there are more than 200 bytes or one is no character of it;");
        FontDesk desk = Trial.with(Trial.sample().info('e', 0, 0, 0, 0), 65536);
        Trial.sets(desk, "b".repeat(199), "b".repeat(199));
        Trial.sets(desk, "b".repeat(200), "b".repeat(200));
        for (String text : new String[] {"b".repeat(201), "b".repeat(400), "e", "abe", "eab", "aeb", "g", "`", "\0", "\u00ff",
            "a\u00ff", "b".repeat(199) + "e", "e" + "b".repeat(199), "b".repeat(200) + "e"}) {
            Trial.sets(desk, "ab", "a<-6554>b");
            Trial.word(desk, text);
            Due.is("no word of " + text.length(), Due.ARGUMENT, () -> desk.set(0));
            Trial.nothingSet(desk);
        }
        Trial.sets(desk, "", "");
        // In another font it is one.
        MetricFile.draft(desk, Trial.sample().bytes());
        Due.is("a second font", 1, () -> desk.load(65536));
        Trial.sets(desk, 1, "abe", "a<-6554>be");
        Trial.word(desk, "abe");
        Due.is("not in the first", Due.ARGUMENT, () -> desk.set(0));
    }

    /** Signs a .. t; ap becomes a, nine signs more, and p; it is eleven then. */
    private static MetricFile tower() {
        MetricFile f = MetricFile.plain('a', 20);
        f.kerns.add(16);
        for (int k = 0; k < 9; k++) {
            f.step(128, 'p', 7, 'b' + k).program('a' + k, k);
        }
        return f;
    }

    /** Here ap becomes a, eight signs more, a kern and p. */
    private static MetricFile kernTower() {
        MetricFile f = tower();
        f.steps.set(8, MetricFile.word(128, 'p', KERN, 0));
        return f;
    }

    /** Ninety towers and so many p, with what stands before and behind them. */
    private static long setTowers(FontDesk desk, String before, int more, String behind) {
        Trial.word(desk, before + "ap".repeat(90) + "p".repeat(more) + behind);
        return Due.of(() -> desk.set(0));
    }

    /** With so many p there are just 1000, and with one more there are too many. */
    private static void signsAtTheLimit(String what, MetricFile file, String before, int most, String behind, int items) {
        FontDesk desk = Trial.with(file, 65536);
        Due.same(what + ": 1001 at once", Due.STATE, setTowers(desk, before, most + 1, behind));
        Trial.nothingSet(desk);
        Due.same(what + ": 1000", items, setTowers(desk, before, most, behind));
        Due.is(what + ": the last one", 0, () -> desk.item(items - 1, 0) == -1 ? 1 : 0);
        Due.is(what + ": behind it", -1, () -> desk.item(items, 0));
        Due.same(what + ": 1001", Due.STATE, setTowers(desk, before, most + 1, behind));
        Trial.nothingSet(desk);
        Due.same(what + ": 999", items - 1, setTowers(desk, before, most - 1, behind));
    }

    private static void tooManySigns() {
        Doc.says("IllegalStateException if there would ever be more than 1000 signs and kerns together");
        signsAtTheLimit("signs", tower(), "", 8, "", 998);
        signsAtTheLimit("signs and kerns", kernTower(), "", 8, "", 998);
        // A kern at the very end is the last that has room.
        MetricFile lastKern = tower().step(128, 'q', KERN, 0).program('r', 9);
        signsAtTheLimit("a kern", lastKern, "", 5, "rq", 998);
        // Something comes between r and q and goes again: for a while there was one more.
        MetricFile forAWhile = tower().step(0, 'q', 3, 's').step(128, 's', 0, 't').program('r', 9);
        signsAtTheLimit("one more for a while", forAWhile, "", 5, "rq", 997);
        // Each of the ways in which one more comes.
        for (int deed : new int[] {3, 7, 11}) {
            MetricFile last = tower().step(128, 'q', deed, 's').program('r', 9);
            signsAtTheLimit("by " + deed, last, "", 5, "rq", 998);
        }
        // Those in which none does.
        for (int deed : new int[] {1, 2, 5, 6}) {
            MetricFile last = tower().step(128, 'q', deed, 's').program('r', 9);
            signsAtTheLimit("by " + deed, last, "", 6, "rq", 998);
        }
        MetricFile less = tower().step(128, 'q', 0, 's').program('r', 9);
        signsAtTheLimit("two by 0, behind all", less, "", 6, "rq", 997);
        signsAtTheLimit("two by 0, ahead of all", less, "rq", 7, "", 998);
    }

    private static void edgesCount() {
        Doc.says("(both edges count, as long as they are there, the right one also without a BOUNDARY),");
        MetricFile bare = tower();
        signsAtTheLimit("no program of an edge", bare, "", 8, "", 998);
        MetricFile boundary = tower();
        boundary.steps.add(0, MetricFile.word(255, 200, 0, 0));
        for (int k = 0; k < 9; k++) {
            boundary.program('a' + k, k + 1);
        }
        signsAtTheLimit("a boundary", boundary, "", 8, "", 998);
        signsAtTheLimit("a left program", tower().step(255, 0, 0, 0), "", 8, "", 998);
        // The left edge and q go for t: the edge counts no more.
        MetricFile leftGoes = tower().step(128, 'q', 0, 't').step(255, 0, 0, 9);
        signsAtTheLimit("the left edge goes with one", leftGoes, "q", 8, "", 999);
        // t comes in its place, and counts as it did.
        MetricFile leftChanges = tower().step(128, 'q', 1, 't').step(255, 0, 0, 9);
        signsAtTheLimit("one comes in the left edge's place", leftChanges, "q", 7, "", 999);
        MetricFile leftKern = tower().step(128, 'q', KERN, 0).step(255, 0, 0, 9);
        signsAtTheLimit("a kern at the left edge", leftKern, "q", 6, "", 998);
        signsAtTheLimit("the right edge goes with one", rightEdge(0), "", 7, "q", 998);
        signsAtTheLimit("one comes in the right edge's place", rightEdge(2), "", 7, "q", 999);
        signsAtTheLimit("one comes ahead of the right edge", rightEdge(3), "", 6, "q", 998);
        signsAtTheLimit("a kern at the right edge", rightEdge(KERN), "", 6, "q", 998);
    }

    /** A tower font with a boundary for which q's program does this deed. */
    private static MetricFile rightEdge(int deed) {
        MetricFile f = tower();
        f.steps.add(0, MetricFile.word(255, 200, 0, 0));
        for (int k = 0; k < 9; k++) {
            f.program('a' + k, k + 1);
        }
        return f.step(128, 200, deed, deed == KERN ? 0 : 's').program('q', 10);
    }

    /** Between 0 and 105 it stands so many times and once more, 0 becoming 1, 2, ..; kern 0 is there. */
    private static MetricFile chain(int changes) {
        MetricFile f = MetricFile.plain(0, 110);
        f.kerns.add(16);
        for (int c = 0; c < changes; c++) {
            f.step(128, 105, 1, c + 1).program(c, c);
        }
        return f;
    }

    private static long setPairs(FontDesk desk, int pairs, int more) {
        for (int k = 0; k < pairs; k++) {
            desk.put(105, 2);
        }
        for (int k = 0; k < more; k++) {
            desk.put(105, 1);
        }
        return Due.of(() -> desk.set(0));
    }

    /** For a font in which it stands a hundred times between 0 and 105. */
    private static void standsAtTheLimit(String what, MetricFile file, int items) {
        FontDesk desk = Trial.with(file, 65536);
        // Elsewhere it stands once: 99 * 100 + 98 between the pairs + 2 at the edges.
        Due.same(what + ": 10000 stands", items, setPairs(desk, 99, 0));
        Due.is(what + ": the last one", 0, () -> desk.item(items - 1, 0) == -1 ? 1 : 0);
        Due.same(what + ": 10001 stands", Due.STATE, setPairs(desk, 99, 1));
        Trial.nothingSet(desk);
    }

    private static void tooManyStands() {
        Doc.says("or the machine would stand between two signs more than 10000 times");
        standsAtTheLimit("x by x", chain(99), 198);
        FontDesk desk = Trial.with(chain(99), 65536);
        Due.same("10101 stands", Due.STATE, setPairs(desk, 100, 0));
        Trial.nothingSet(desk);
        Due.same("9901 stands", 197, setPairs(desk, 98, 1));
        Due.same("102 stands", 2, setPairs(desk, 1, 0));
        Due.is("0 became 99", 99, () -> desk.item(0, 1));
    }

    private static void standsThatCount() {
        Doc.says("(each time it looks for a step, or would, counts).");
        // The last stand of the hundred is without a program, without a step, or does a step.
        standsAtTheLimit("without a program", chain(99), 198);
        standsAtTheLimit("without a step", chain(99).step(128, 0, KERN, 0).program(99, 99), 198);
        standsAtTheLimit("a kern", chain(99).step(128, 105, KERN, 0).program(99, 99), 297);
        standsAtTheLimit("0", chain(99).step(128, 105, 0, 109).program(99, 99), 99);
        // What these go on over is not stood at, ..
        standsAtTheLimit("5", chain(99).step(128, 105, 5, 109).program(99, 99), 198);
        standsAtTheLimit("6", chain(99).step(128, 105, 6, 109).program(99, 99), 198);
        standsAtTheLimit("11", chain(99).step(128, 105, 11, 109).program(99, 99), 297);
        // .. but what stands between r and y then, or x and r, is.
        standsAtTheLimit("7", chain(98).step(128, 105, 7, 109).program(98, 98), 297);
        standsAtTheLimit("2", chain(98).step(128, 105, 2, 109).program(98, 98), 198);
        standsAtTheLimit("3", chain(97).step(128, 105, 3, 109).program(97, 97), 297);
        // At the edges it would look, whether they have steps or not.
        standsAtTheLimit("a left program", chain(99).step(128, 105, KERN, 0).step(255, 0, 0, 99), 198);
        standsAtTheLimit("a kern at the left edge", chain(99).step(128, 0, KERN, 0).step(255, 0, 0, 99), 199);
        MetricFile boundary = chain(99).step(128, 200, KERN, 0).program(105, 100);
        boundary.steps.add(0, MetricFile.word(255, 200, 0, 0));
        for (int c = 0; c < 99; c++) {
            boundary.program(c, c + 1);
        }
        standsAtTheLimit("a kern at the right edge", boundary, 199);
    }

    // ---- promise 8

    private static void items() {
        Doc.says("Of item k of the word set last (none, if that threw): what 0: 0 a character, 1 a character that came by a "
            + "ligature, 2 a kern; 1: its code, or the kern in scaled points.");
        FontDesk desk = Trial.with(Trial.sample(), 655360);
        Trial.word(desk, "abac");
        Due.is("four items", 4, () -> desk.set(0));
        int[][] want = {{0, 'a'}, {2, -65536}, {0, 'b'}, {1, 'd'}};
        for (int turn = 0; turn < 2; turn++) {
            for (int k = 0; k < 4; k++) {
                int at = k;
                Due.is("kind " + k, want[k][0], () -> desk.item(at, 0));
                Due.is("code " + k, want[k][1], () -> desk.item(at, 1));
            }
            MetricFile.draft(desk, Trial.sample().bytes());
            Due.is("a load leaves the word", turn + 1, () -> desk.load(1));
            Due.is("so does one that is refused", Due.ARGUMENT, () -> desk.load(1));
            desk.put('a', 1);
            Due.is("and one that is none", Due.STATE, () -> desk.load(-1));
            Due.is("and that draft as a file", Due.ARGUMENT, () -> desk.load(1));
        }
        wordsThatThrew();
        // A ligature that is the same character as before came by a ligature all the same.
        Trial.sets(MetricFile.plain('a', 2).step(128, 'b', 0, 'a').program('a', 0), "ab", "(a)");
        FontDesk ends = Trial.with(MetricFile.plain(0, 256), 65536);
        Trial.sets(ends, "\0\u00ff", "\0\u00ff");
    }

    private static void wordsThatThrew() {
        FontDesk desk = Trial.with(chain(99), 65536);
        String[] whats = {"no font", "no character", "too long", "too many stands"};
        for (int k = 0; k < whats.length; k++) {
            Due.same("a word", 2, setPairs(desk, 1, 0));
            Due.is("an item", 99, () -> desk.item(0, 1));
            int font = k == 0 ? 1 : 0;
            for (int i = 0; i < (k == 2 ? 201 : k == 3 ? 100 : 1); i++) {
                desk.put(k == 1 ? 200 : 105, k == 3 ? 2 : 1);
            }
            Due.is(whats[k], k == 0 ? Due.INDEX : k == 3 ? Due.STATE : Due.ARGUMENT, () -> desk.set(font));
            Trial.nothingSet(desk);
        }
    }

    private static void noItems() {
        Doc.says("NONE if there is no such item or what.");
        FontDesk desk = Trial.with(Trial.sample(), 655360);
        Due.is("no word yet", -1, () -> desk.item(0, 0));
        Trial.word(desk, "abac");
        Due.is("four items", 4, () -> desk.set(0));
        for (int k : new int[] {4, 5, 999, 1000, 1001, -1, LEAST, MOST}) {
            for (int what = -1; what <= 2; what++) {
                int w = what;
                Due.is("item " + k + ", " + what, -1, () -> desk.item(k, w));
            }
        }
        for (int what : new int[] {-1, 2, 3, 256, LEAST, MOST}) {
            for (int k = 0; k < 4; k++) {
                int at = k;
                Due.is("what " + what + " of " + k, -1, () -> desk.item(at, what));
            }
        }
        Trial.sets(desk, "b", "b");
        for (int k = 1; k < 5; k++) {
            int at = k;
            Due.is("no more of the longer word", -1, () -> desk.item(at, 0));
        }
        Trial.sets(desk, "", "");
        Due.is("nothing of the shorter one", -1, () -> desk.item(0, 1));
    }

    // ---- promise 9

    private static void widths() {
        Doc.says("The widths of all items of the word set last together, in scaled points.");
        FontDesk desk = Trial.with(Trial.sample(), 655360);
        Due.is("no word yet", 0, () -> desk.width());
        Trial.sets(desk, "abac", "a<-65536>b(d)");
        Due.is("three signs and a kern", 3 * 327680 - 65536, () -> desk.width());
        Due.is("asked again", 3 * 327680 - 65536, () -> desk.width());
        MetricFile.draft(desk, Trial.sample().bytes());
        Due.is("a second font", 1, () -> desk.load(1));
        Due.is("leaves it", 3 * 327680 - 65536, () -> desk.width());
        Trial.sets(desk, "", "");
        Due.is("the empty word", 0, () -> desk.width());
        widthOf("200 of the widest", 16 * ONE - 1, 134217727, 200, 200 * 2147483504L);
        widthOf("200 of the least", -16 * ONE, 134217727, 200, 200 * -2147483632L);
        widthOf("two beyond an int", 16 * ONE - 1, 134217727, 2, 4294967008L);
        widthOf("each rounded down by itself", ONE / 2 + 1, 1, 3, 0);
        widthOf("each rounded down by itself, below 0", -1, 1, 3, -3);
        MetricFile kernsOnly = MetricFile.plain('a', 1).step(128, 'a', KERN, 0).program('a', 0);
        kernsOnly.widths.set(1, 0);
        kernsOnly.kerns.add(-16 * ONE);
        FontDesk far = Trial.with(kernsOnly, 134217727);
        Trial.word(far, "aaa");
        Due.is("two kerns", 5, () -> far.set(0));
        Due.is("beyond an int, too", 2 * -2147483632L, () -> far.width());
    }

    private static void widthOf(String what, int word, int z, int signs, long want) {
        MetricFile f = MetricFile.plain('a', 1);
        f.widths.set(1, word);
        FontDesk desk = Trial.with(f, z);
        Trial.word(desk, "a".repeat(signs));
        Due.is(what, signs, () -> desk.set(0));
        Due.is(what, want, () -> desk.width());
    }

    // ---- promise 10

    private static void countsOfTheDesk() {
        Doc.says("what 0: fonts, 1: bytes drafted;");
        FontDesk desk = new FontDesk();
        byte[] bytes = MetricFile.plain('a', 1).bytes();
        for (int k = 0; k < 32; k++) {
            int number = k;
            Due.is("fonts", number, () -> desk.count(0));
            MetricFile.draft(desk, bytes);
            Due.is("bytes", bytes.length, () -> desk.count(1));
            Due.is("font " + k, number, () -> desk.load(0));
            Due.is("bytes used up", 0, () -> desk.count(1));
        }
        Due.is("32 fonts", 32, () -> desk.count(0));
        desk.put(0, 3);
        Due.is("three bytes", 3, () -> desk.count(1));
        Due.is("a word uses them up", Due.ARGUMENT, () -> desk.set(0));
        Due.is("no bytes", 0, () -> desk.count(1));
    }

    private static void countsAre(FontDesk desk, String what, long... want) {
        for (int w = 0; w < want.length; w++) {
            int at = w;
            Due.is(what + ": count(" + (w + 2) + ")", want[w], () -> desk.count(at + 2));
        }
    }

    private static void countsOfTheLatest() {
        Doc.says("of the latest font, 0 without: 2: LF, 3: characters that are there, 4: its size in scaled points, 5: the "
            + "BOUNDARY (NONE without);");
        FontDesk desk = new FontDesk();
        countsAre(desk, "no font", 0, 0, 0, 0);
        Due.is("refused", Due.ARGUMENT, () -> desk.load(9));
        countsAre(desk, "a refused one", 0, 0, 0, 0);
        MetricFile[] files = {Trial.sample().info('e', 0, 1, 1, 1), MetricFile.plain(250, 6).step(255, 7, 0, 0),
            MetricFile.plain(1, 0).step(255, 0, 0, 0), MetricFile.plain(0, 256), MetricFile.plain('a', 1).step(255, 'a', 0, 0),
            MetricFile.plain(9, 0), MetricFile.plain(0, 3).info(0, 0, 0, 0, 0).info(2, 0, 0, 0, 0).step(255, 255, 0, 0)};
        int[] characters = {5, 6, 0, 256, 1, 0, 1};
        int[] edges = {-1, 7, 0, -1, 'a', -1, 255};
        for (int k = 0; k < files.length; k++) {
            int number = k;
            MetricFile.draft(desk, files[k].bytes());
            Due.is("font " + k, k, () -> desk.load(number == 2 ? 0 : 99 + number));
            int size = k == 2 ? 655360 : 99 + k;
            countsAre(desk, "font " + k, files[k].bytes().length / 4, characters[k], size, edges[k]);
            Due.is("refused", Due.ARGUMENT, () -> desk.load(1));
            Due.is("no load", Due.STATE, () -> desk.load(-1));
            countsAre(desk, "font " + k + " still", files[k].bytes().length / 4, characters[k], size, edges[k]);
        }
    }

    private static void noCounts() {
        Doc.says("NONE for another what.");
        FontDesk desk = Trial.with(Trial.sample(), 65536);
        desk.put(0, 1);
        for (int what : new int[] {-1, -2, 6, 7, 256, LEAST, MOST}) {
            Due.is("count(" + what + ")", -1, () -> desk.count(what));
            Due.is("count(" + what + ") without fonts", -1, () -> new FontDesk().count(what));
        }
    }
}
