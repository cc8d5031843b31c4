import java.util.List;

/** Terms: the machine, what each kind of step does to the row, and programs that do not come to an end. */
final class MachineSentences {
    private static final int KERN = Trial.KERN;
    private static final int[] DEEDS = {0, 1, 2, 3, 5, 6, 7, 11};

    static void all() {
        row();
        firstStand();
        programOfTheFirst();
        withoutStep();
        kern();
        ligature();
        standsBeforeTheFirst();
        endBehindTheLast();
        edgesGone();
        lookingAtEnds();
        lookingAtDoesNotEnd();
    }

    /** Characters a .. f; kern k is of k + 1 scaled points at a size of 65536. */
    private static MetricFile kerned() {
        return withKerns(MetricFile.plain('a', 6));
    }

    private static MetricFile withKerns(MetricFile f) {
        while (f.kerns.size() < 9) {
            f.kerns.add(16 * (f.kerns.size() + 1));
        }
        return f;
    }

    private static void row() {
        Doc.says("THE MACHINE sets a word: its row is the LEFT EDGE, its characters, and the RIGHT EDGE, which is sought as "
            + "the BOUNDARY, if there is one (else no step is for it).");
        for (int edge : new int[] {0, 1, 200, 255}) {
            FontDesk desk = Trial.with(bothEdges(edge), 65536);
            Trial.sets(desk, "", "<2>");
            Trial.sets(desk, "a", "<1>a<3>");
            Trial.sets(desk, "b", "b");
            Trial.sets(desk, "ab", "<1>ab");
            Trial.sets(desk, "ba", "ba<3>");
            Trial.sets(desk, "aba", "<1>aba<3>");
        }
        // A boundary that is a character too: its steps are for both.
        FontDesk both = Trial.with(bothEdges('b'), 65536);
        Trial.sets(both, "", "<2>");
        Trial.sets(both, "a", "<1>a<3>");
        Trial.sets(both, "b", "<2>b");
        Trial.sets(both, "ab", "<1>a<3>b");
        Trial.sets(both, "ba", "<2>ba<3>");
        // Steps for all there are, but none of them is the right edge's without a boundary.
        MetricFile all = withKerns(MetricFile.plain(0, 256));
        for (int n = 0; n < 256; n++) {
            all.step(n == 255 ? 128 : 0, n, KERN, 0);
        }
        all.program('a', 0).step(255, 0, 0, 0);
        Trial.sets(all, "", "");
        Trial.sets(all, "a", "<1>a");
        Trial.sets(all, "a\u00ff", "<1>a<1>\u00ff");
        Trial.sets(all, "\0", "<1>\0");
    }

    private static MetricFile bothEdges(int edge) {
        return kerned().step(255, edge, 0, 0)
            .step(0, 'a', KERN, 0)      // 1: the left program
            .step(128, edge, KERN, 1)
            .step(128, edge, KERN, 2)   // 3: of a
            .step(255, 0, 0, 1).program('a', 3);
    }

    private static void firstStand() {
        Doc.says("It stands between the first sign x and the second one y.");
        MetricFile f = kerned().step(128, 'a', 0, 'c').step(128, 'b', 0, 'd').step(128, 'b', 0, 'e').program('a', 1)
            .program('c', 2);
        Trial.sets(f, "ab", "(d)");
        Trial.sets(f.step(255, 0, 0, 0), "ab", "(e)");
        Trial.sets(kerned().step(128, 'b', KERN, 0).program('a', 0), "ba", "ba");
        Trial.sets(kerned().step(128, 'b', KERN, 0).program('a', 0), "ab", "a<1>b");
        Trial.sets(kerned().step(128, 'a', KERN, 0).program('a', 0), "a", "a");
    }

    private static void programOfTheFirst() {
        Doc.says("The program of x (of the left edge the left program; of a character with tag 1 its own; else none) is looked "
            + "for a step with y.");
        for (int tag = 0; tag < 4; tag++) {
            MetricFile f = withKerns(MetricFile.plain(0, 128)).info('a', 1, 0, tag, 0).step(128, 'b', KERN, 0);
            f.pieces.add(0);
            Trial.sets(f, "ab", tag == 1 ? "a<1>b" : "ab");
            Trial.sets(f, "b", "b");
            Trial.sets(f.step(255, 0, 0, 0), "b", "<1>b");
            Trial.sets(f, "cb", "cb");
        }
        MetricFile own = kerned().step(128, 'b', KERN, 0).step(128, 'b', KERN, 1).step(128, 'b', 0, 'a').program('a', 0)
            .program('c', 1).program('d', 2);
        Trial.sets(own, "abcb", "a<1>bc<2>b");
        // A ligature has its own program, too.
        Trial.sets(own, "dbb", "(a)<1>b");
        Trial.sets(own.info('a', 1, 0, 0, 0), "dbb", "(a)b");
    }

    private static void withoutStep() {
        Doc.says("Without one it goes on by one sign.");
        FontDesk desk = Trial.with(kerned().step(128, 'b', KERN, 0).program('a', 0), 65536);
        Trial.sets(desk, "cab", "ca<1>b");
        Trial.sets(desk, "acab", "aca<1>b");
        Trial.sets(desk, "aab", "aa<1>b");
        Trial.sets(desk, "abcab", "a<1>bca<1>b");
        Trial.sets(desk, "c".repeat(198) + "ab", "c".repeat(198) + "a<1>b");
        Trial.sets(desk, "fedcba", "fedcba");
    }

    private static void kern() {
        Doc.says("A kern: it stands between x and y, and it goes on by one.");
        MetricFile f = kerned().step(0, 'a', KERN, 0).step(128, 'b', 0, 'c').program('a', 0);
        Trial.sets(f, "aa", "a<1>a");
        Trial.sets(f, "aaaa", "a<1>a<1>a<1>a");
        Trial.sets(f, "aab", "a<1>(c)");
        for (int word : new int[] {0, -16, 16 * 70000}) {
            f.kerns.set(0, word);
            Trial.sets(f, "aac", "a<" + word / 16 + ">ac");
        }
        MetricFile ahead = kerned().step(128, 'b', KERN, 1).step(128, 'c', KERN, 2).program('a', 0).program('b', 1);
        Trial.sets(ahead, "abc", "a<2>b<3>c");
        FontDesk edges = Trial.with(bothEdges(200), 65536);
        Trial.sets(edges, "aa", "<1>aa<3>");
    }

    /** ab is done by this deed with c; a kern tells at a c, c b, b d and c d that the machine stood there. */
    private static MetricFile tellTale(int deed) {
        return kerned().step(0, 'b', deed, 'c').step(128, 'c', KERN, 4)
            .step(0, 'b', KERN, 0).step(128, 'd', KERN, 6)
            .step(128, 'd', KERN, 8)
            .program('a', 0).program('c', 2).program('b', 4);
    }

    private static void ligature() {
        Doc.says("A ligature with r: o = 0: both go, r comes in their place;");
        FontDesk none = Trial.with(tellTale(0), 65536);
        Trial.sets(none, "ab", "(c)");
        Trial.sets(none, "abd", "(c)<7>d");
        Trial.sets(none, "abb", "(c)<1>b");
        Trial.sets(none, "abab", "(c)(c)");
        Trial.sets(none, "aab", "a(c)");
        Doc.says("1: x goes, r comes in its place;");
        FontDesk second = Trial.with(tellTale(1), 65536);
        Trial.sets(second, "ab", "(c)<1>b");
        Trial.sets(second, "abd", "(c)<1>b<9>d");
        Trial.sets(second, "abab", "(c)<1>b(c)<1>b");
        Doc.says("2: y goes likewise;");
        FontDesk first = Trial.with(tellTale(2), 65536);
        Trial.sets(first, "ab", "a<5>(c)");
        Trial.sets(first, "abd", "a<5>(c)<7>d");
        Trial.sets(first, "abb", "a<5>(c)<1>b");
        Doc.says("3: r comes between both;");
        FontDesk both = Trial.with(tellTale(3), 65536);
        Trial.sets(both, "ab", "a<5>(c)<1>b");
        Trial.sets(both, "abd", "a<5>(c)<1>b<9>d");
        Trial.sets(both, "abab", "a<5>(c)<1>ba<5>(c)<1>b");
        Doc.says("5, 6, 7 as 1, 2, 3, but it goes on by one sign then;");
        Trial.sets(tellTale(5), "ab", "(c)b");
        Trial.sets(tellTale(5), "abd", "(c)b<9>d");
        Trial.sets(tellTale(6), "ab", "a(c)");
        Trial.sets(tellTale(6), "abd", "a(c)<7>d");
        Trial.sets(tellTale(6), "abb", "a(c)<1>b");
        Trial.sets(tellTale(7), "ab", "a(c)<1>b");
        Trial.sets(tellTale(7), "abd", "a(c)<1>b<9>d");
        Doc.says("11 as 3, but it goes on by two.");
        FontDesk two = Trial.with(tellTale(11), 65536);
        Trial.sets(two, "ab", "a(c)b");
        Trial.sets(two, "abd", "a(c)b<9>d");
        Trial.sets(two, "abb", "a(c)bb");
        Trial.sets(two, "abab", "a(c)ba(c)b");
    }

    private static void standsBeforeTheFirst() {
        Doc.says("Else it stands before the first of what is there now (behind the same sign as before, which for 0 means: "
            + "between r and what stands behind it).");
        FontDesk chain = Trial.with(
            kerned().step(128, 'b', 0, 'c').step(128, 'd', 0, 'a').program('a', 0).program('c', 1), 65536);
        Trial.sets(chain, "abd", "(a)");
        Trial.sets(chain, "abdb", "(c)");
        Trial.sets(chain, "abdbdbd", "(a)");
        Trial.sets(chain, "ab" + "db".repeat(99), "(c)");
        Trial.sets(kerned().step(128, 'b', 1, 'c').step(128, 'b', 1, 'd').step(128, 'b', KERN, 0).program('a', 0)
            .program('c', 1).program('d', 2), "ab", "(d)<1>b");
        Trial.sets(kerned().step(0, 'b', 2, 'c').step(0, 'c', 2, 'd').step(128, 'd', KERN, 0).program('a', 0), "ab",
            "a<1>(d)");
        Trial.sets(kerned().step(0, 'b', 3, 'c').step(0, 'c', 3, 'd').step(128, 'd', KERN, 0).program('a', 0), "ab",
            "a<1>(d)(c)b");
        // Never back behind the sign ahead of x.
        for (int deed : DEEDS) {
            MetricFile back = tellTale(deed).step(0, 'c', KERN, 2).step(128, 'a', KERN, 3).program('e', 5);
            String[] wants = {"(c)", "(c)<1>b", "a<5>(c)", "a<5>(c)<1>b", "", "(c)b", "a(c)", "a(c)<1>b", "", "", "",
                "a(c)b"};
            Trial.sets(back, "eab", "e<4>" + wants[deed]);
        }
    }

    /** A word that is a, whose program does this deed with c for the boundary; kerns at a c and c and the boundary. */
    private static MetricFile rightEdge(int deed) {
        return kerned().step(255, 200, 0, 0).step(0, 200, deed, 'c').step(128, 'c', KERN, 4).step(128, 200, KERN, 0)
            .program('a', 1).program('c', 3);
    }

    private static void endBehindTheLast() {
        Doc.says("It ends when it is behind the last sign.");
        String[] wants = {"(c)", "(c)<1>", "a<5>(c)", "a<5>(c)<1>", "", "(c)", "a(c)", "a(c)<1>", "", "", "", "a(c)"};
        for (int deed : DEEDS) {
            Trial.sets(rightEdge(deed), "a", wants[deed]);
            Trial.sets(rightEdge(deed), "ba", "b" + wants[deed]);
        }
        Trial.sets(kerned(), "", "");
        Trial.sets(kerned().step(255, 200, 0, 0).step(128, 200, 0, 'a').program('a', 1), "a", "(a)");
        Trial.sets(kerned().step(255, 200, 0, 0).step(128, 200, 6, 'a').program('a', 1), "a", "a(a)");
        Trial.sets(kerned().step(255, 200, 0, 0).step(128, 200, 5, 'a').program('a', 1), "a", "(a)");
        Trial.sets(kerned().step(255, 200, 0, 0).step(128, 200, 11, 'a').program('a', 1), "a", "a(a)");
    }

    /** The left program does this deed with c for a; kerns at the left edge and c, at c a and at a b. */
    private static MetricFile leftEdge(int deed) {
        return kerned().step(0, 'a', deed, 'c').step(128, 'c', KERN, 4).step(128, 'a', KERN, 0).step(128, 'b', KERN, 8)
            .step(255, 0, 0, 0).program('c', 2).program('a', 3);
    }

    private static void edgesGone() {
        Doc.says("An edge that is gone stays gone; r in an edge's place is a character.");
        String[] wants = {"(c)b", "(c)<1>a<9>b", "<5>(c)b", "<5>(c)<1>a<9>b", "", "(c)a<9>b", "(c)b", "(c)<1>a<9>b", "",
            "", "", "(c)a<9>b"};
        for (int deed : DEEDS) {
            Trial.sets(leftEdge(deed), "ab", wants[deed]);
            FontDesk right = Trial.with(rightEdge(deed), 65536);
            Trial.word(right, "a");
            // c in an edge's place is as wide as any.
            int signs = deed == 0 || deed == 1 || deed == 5 ? 1 : 2;
            int kerns = deed == 1 || deed == 7 ? 1 : deed == 2 ? 5 : deed == 3 ? 6 : 0;
            Due.is("set", signs + (kerns == 6 ? 2 : kerns > 0 ? 1 : 0), () -> right.set(0));
            Due.is("width", signs * 32768 + kerns, () -> right.width());
        }
        // Both edges of the empty word go for one character, or one of them does.
        MetricFile empty = kerned().step(255, 200, 0, 0).step(128, 200, 0, 'c').step(255, 0, 0, 1);
        Trial.sets(empty, "", "(c)");
        empty.steps.set(1, MetricFile.word(128, 200, 1, 'c'));
        Trial.sets(empty, "", "(c)");
        empty.steps.set(1, MetricFile.word(128, 200, 2, 'c'));
        Trial.sets(empty, "", "(c)");
        // The left program is not c's, which stands in the left edge's place.
        MetricFile left = kerned().step(0, 'a', 1, 'c').step(128, 'b', KERN, 0).step(255, 0, 0, 0);
        Trial.sets(left, "a", "(c)a");
        Trial.sets(left, "ab", "(c)ab");
        left.steps.set(0, MetricFile.word(0, 'a', 0, 'c'));
        Trial.sets(left, "ab", "(c)b");
        // c in the right edge's place is sought as c, and no edge is behind it.
        MetricFile right = kerned().step(255, 200, 0, 0).step(0, 200, 2, 'c').step(128, 'c', 6, 'd').step(128, 200, KERN, 0)
            .program('a', 1).program('d', 3).program('c', 3);
        Trial.sets(right, "a", "a(d)");
    }

    private static void lookingAtEnds() {
        Doc.says("The LOOKING AT x and y ENDS, if the machine, which stands between them, once stands behind y or what came in "
            + "its place, whatever is behind that.");
        for (int deed : new int[] {0, 5, 6, 11}) {
            for (int y : new int[] {'a', 'b'}) {
                for (int r : new int[] {'a', 'b'}) {
                    Trial.faultIs(deed + " stands behind y", 0, kerned().step(128, y, deed, r).program('a', 0));
                    Trial.faultIs(deed + " for both", 0,
                        kerned().step(0, 'a', deed, r).step(128, 'b', deed, r).program('a', 0).program('b', 0));
                }
            }
        }
        Trial.faultIs("kerns", 0, kerned().step(0, 'a', KERN, 0).step(128, 'b', KERN, 0).program('a', 0).program('b', 0));
        // What is behind r may be for r again: it goes on, but each looking at ends.
        Trial.sets(kerned().step(128, 'b', 0, 'a').program('a', 0), "a" + "b".repeat(199), "(a)");
        Trial.sets(kerned().step(128, 'a', 0, 'a').program('a', 0), "a".repeat(200), "(a)");
        for (int deed : new int[] {1, 2, 3, 7}) {
            Trial.faultIs(deed + ", then no step", 0, kerned().step(128, 'b', deed, 'c').program('a', 0));
        }
        Trial.faultIs("7, and r is y", 0, kerned().step(128, 'b', 7, 'b').program('a', 0));
        Trial.faultIs("a step that an earlier one hides", 0,
            kerned().step(0, 'b', 0, 'a').step(128, 'b', 1, 'a').program('a', 0));
        Trial.faultIs("a step that is passed over", 0,
            kerned().step(1, 'c', 0, 'a').step(128, 'b', 1, 'a').step(128, 'd', 0, 'a').program('a', 0));
        Trial.faultIs("a step of no program", 0, kerned().step(128, 'b', 1, 'a'));
        Trial.faultIs("a step behind two jumps", 0,
            kerned().step(200, 0, 0, 1).step(200, 0, 0, 2).step(128, 'b', 1, 'a').program('a', 0));
        Trial.faultIs("a step behind a jump in a program", 0,
            kerned().step(0, 'c', 0, 'a').step(200, 'b', 0, 2).step(128, 'b', 1, 'a').program('a', 0));
        Trial.faultIs("a step of a program without its tag", 0, kerned().step(128, 'b', 1, 'a').info('a', 1, 0, 0, 0));
        Trial.faultIs("the left edge goes once", 0, kerned().step(128, 'a', 1, 'a').step(255, 0, 0, 0));
        Trial.faultIs("between both edges", 0,
            kerned().step(255, 200, 0, 0).step(128, 200, 3, 'a').step(255, 0, 0, 1));
        endsLate();
    }

    /**
     * For x and y the one above both comes between them: that ends, but takes twice as long for each character more.
     * The topmost and 0 are done by this deed with the topmost.
     */
    static MetricFile doubling(int characters, int deed) {
        MetricFile f = withKerns(MetricFile.plain(0, characters));
        int top = characters - 1;
        for (int x = 0; x <= top; x++) {
            int at = characters + x * top;
            f.step(129, 0, at >> 8, at & 255).program(x, x);
        }
        for (int x = 0; x < top; x++) {
            for (int y = 0; y < top; y++) {
                f.step(y == top - 1 ? 128 : 0, y, 3, Math.max(x, y) + 1);
            }
        }
        return f.step(128, 0, deed, top);
    }

    private static void endsLate() {
        MetricFile late = doubling(64, 5);
        Trial.faultIs("ends behind some 2 to the 63 stands", 0, late);
        FontDesk desk = Trial.with(late, 65536);
        desk.put(0, 2);
        Due.is("a word of it", Due.STATE, () -> desk.set(0));
        MetricFile chain = MetricFile.plain(0, 256);
        for (int c = 0; c < 255; c++) {
            chain.step(128, 0, 1, c + 1).program(c, c);
        }
        Trial.faultIs("255 pairs on", 0, chain);
        MetricFile turns = MetricFile.plain(0, 256);
        for (int c = 0; c < 256; c++) {
            turns.program(c, 0);
            turns.step(c == 254 ? 128 : 0, c, 2, Math.min(255, c + 1));
        }
        turns.steps.remove(255);
        Trial.faultIs("all pairs of all characters", 0, turns);
    }

    private static void lookingAtDoesNotEnd() {
        Doc.says("A file in which it does not end for an x (a character or the left edge) and a y (a character or the boundary) "
            + "is refused.");
        for (int deed : new int[] {1, 2, 3, 7}) {
            Trial.faultIs(deed + ": a a again", 7, kerned().step(128, 'a', deed, 'a').program('a', 0));
        }
        Trial.faultIs("1: a b again", 7, kerned().step(128, 'b', 1, 'a').program('a', 0));
        Trial.faultIs("2: a b again", 7, kerned().step(128, 'b', 2, 'b').program('a', 0));
        Trial.faultIs("3: a b again", 7, kerned().step(128, 'b', 3, 'b').program('a', 0));
        Trial.faultIs("3: a b again behind a", 7, kerned().step(128, 'b', 3, 'a').program('a', 0));
        Trial.faultIs("7: a b again behind a", 7, kerned().step(128, 'b', 7, 'a').program('a', 0));
        Trial.faultIs("the last characters", 7, kerned().step(128, 'f', 1, 'f').program('f', 0));
        Trial.faultIs("all 256 characters, the last one", 7,
            MetricFile.plain(0, 256).step(128, 255, 1, 255).program(255, 0));
        Trial.faultIs("behind a jump", 7, kerned().step(200, 0, 0, 1).step(128, 'b', 1, 'a').program('a', 0));
        Trial.faultIs("behind steps passed over", 7,
            kerned().step(1, 'c', 0, 'a').step(128, 'd', 0, 'a').step(128, 'b', 1, 'a').program('a', 0));
        Trial.faultIs("round two x", 7,
            kerned().step(128, 'b', 1, 'c').step(128, 'b', 1, 'a').program('a', 0).program('c', 1));
        Trial.faultIs("round two y", 7, kerned().step(0, 'b', 2, 'c').step(128, 'c', 2, 'b').program('a', 0));
        for (int deed : new int[] {2, 3}) {
            Trial.faultIs(deed + ": c d again, of the third program", 7, kerned().step(128, 'd', KERN, 0)
                .step(128, 'd', deed, 'd').program('a', 0).program('b', 0).program('c', 1));
        }
        Trial.faultIs("round by 0", 7, kerned().step(0, 'b', 3, 'c').step(128, 'c', 0, 'a').program('a', 0));
        endlessAtEdges();
        middlesOfPairs();
        endlessFarOff();
        loadsBehindOneAnother();
    }

    private static void endlessAtEdges() {
        for (int deed : new int[] {2, 3}) {
            MetricFile left = kerned().step(128, 'a', deed, 'a').step(255, 0, 0, 0);
            Trial.faultIs(deed + ": the left edge and a again", 7, left);
            left.steps.set(1, MetricFile.word(254, 0, 0, 0));
            Trial.faultIs(deed + ": no left program", 0, left);
        }
        Trial.faultIs("the left edge round two y", 7,
            kerned().step(0, 'a', 2, 'b').step(128, 'b', 2, 'a').step(255, 0, 0, 0));
        Trial.faultIs("the left edge and the boundary", 7,
            kerned().step(255, 200, 0, 0).step(0, 200, 2, 'a').step(128, 'a', 2, 'a').step(255, 0, 0, 1));
        for (int edge : new int[] {0, 200, 255, 'b'}) {
            for (int deed : new int[] {1, 3, 7}) {
                Trial.faultIs(deed + ": a and the boundary again", 7,
                    kerned().step(255, edge, 0, 0).step(128, edge, deed, 'a').program('a', 1));
            }
            Trial.faultIs("the boundary behind what came between", 7, kerned().step(255, edge, 0, 0)
                .step(128, edge, 3, 'c').step(128, edge, 1, 'a').program('a', 1).program('c', 2));
        }
        Trial.faultIs("2 for the boundary, a character", 7,
            kerned().step(255, 'b', 0, 0).step(128, 'b', 2, 'b').program('a', 1));
    }

    /** c comes between a and b; what the looking at a and c then leaves ahead of b must be told rightly. */
    private static void middlesOfPairs() {
        for (int deed : new int[] {0, 6, 5, 11, 1, 7, KERN}) {
            MetricFile f = kerned();
            // a b to a c b; if the deed for a c leaves a ahead of b, that is a b again, but c b is not.
            f.step(0, 'b', 3, 'c').step(128, 'c', deed, deed == KERN ? 0 : deed == 1 || deed == 7 ? 'e' : 'a');
            f.program('a', 0);
            Trial.faultIs("middle by " + deed, deed == 0 || deed == 6 ? 7 : 0, f);
            // Now c b leads back to a b as well.
            f.step(128, 'b', 1, 'a').program('c', 2);
            Trial.faultIs("middle by " + deed + ", c b back to a b", 7, f);
        }
        MetricFile second = kerned().step(0, 'b', 3, 'c').step(0, 'c', 2, 'd').step(128, 'd', 0, 'e')
            .step(128, 'b', 1, 'a');
        Trial.faultIs("a c to a d to e, e b by no step", 0, second.program('a', 0));
        Trial.faultIs("a c to a d to e, e b to a b", 7, second.program('e', 3));
    }

    private static void endlessFarOff() {
        Trial.faultIs("the topmost pair of many", 7, doubling(64, 1));
        MetricFile chain = MetricFile.plain(0, 256);
        for (int c = 0; c < 256; c++) {
            chain.step(128, 0, 1, c == 255 ? 7 : c + 1).program(c, c);
        }
        Trial.faultIs("round 249 x", 7, chain);
    }

    /** What one file left behind is not seen in the next one. */
    private static void loadsBehindOneAnother() {
        FontDesk desk = new FontDesk();
        MetricFile endless = MetricFile.plain('a', 3).step(128, 'b', 1, 'a').program('a', 0);
        MetricFile other = MetricFile.plain('a', 3).step(128, 'c', 1, 'b').program('a', 0);
        MetricFile wide = MetricFile.plain(0, 256).step(128, 'b', 1, 'd').program('a', 0).program(255, 0);
        MetricFile all = MetricFile.plain(0, 256).step(128, 0, 0, 0);
        for (int c = 0; c < 256; c++) {
            all.program(c, 0);
        }
        MetricFile zeros = MetricFile.plain(0, 1).step(128, 0, 0, 0).step(128, 0, 1, 0).program(0, 1);
        MetricFile bare = MetricFile.plain('a', 3);
        int fonts = 0;
        for (MetricFile file : List.of(other, endless, other, bare, endless, wide, other, endless, wide, all, zeros, other,
            all, all, zeros, endless, bare)) {
            boolean refused = file == endless || file == zeros;
            MetricFile.draft(desk, file.bytes());
            int number = fonts;
            Due.is("one behind another", refused ? Due.ARGUMENT : number, () -> desk.load(9));
            Due.is("its fault", refused ? 7 : 0, () -> desk.fault());
            fonts += refused ? 0 : 1;
        }
    }
}
