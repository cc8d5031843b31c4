import java.util.Arrays;
import java.util.List;

/** Terms: the file, its rows, fractions, infos and pieces, and the order of the faults. */
final class FileSentences {
    private static final int ONE = Trial.ONE;
    private static final int KERN = Trial.KERN;
    private static final int LEAST = Integer.MIN_VALUE;
    private static final int MOST = Integer.MAX_VALUE;

    static void all() {
        bytesAndWords();
        twelveHalves();
        halvesBelow32768();
        wordsThere();
        sumOfRows();
        leastHead();
        firstCode();
        lastCode();
        noCharacters();
        mostPieces();
        leastRows();
        rowsInOrder();
        fractionsWithSign();
        fractionsInRange();
        firstOnesAreZero();
        leastDesignSize();
        scaledRoundedDown();
        infosInRows();
        infosOfNoCharacter();
        tagOne();
        tagTwo();
        tagThree();
        pieces();
        faultNumbers();
        faultOrder();
    }

    // ---- the halves

    private static void bytesAndWords() {
        Doc.says("A FILE is a row of bytes, four of them a WORD (the highest first); two bytes are a HALF.");
        MetricFile sized = MetricFile.plain(1, 0);
        sized.head.set(1, 0x01234567);
        FontDesk desk = Trial.with(sized, 0);
        Due.is("a word from its bytes", 0x0123456, () -> desk.count(4));
        Trial.faultIs("1048576, the highest byte first", 0, f -> f.head.set(1, 0x00100000));
        Trial.faultIs("1048576, the lowest byte first", 2, f -> f.head.set(1, 0x00001000));
        MetricFile long300 = MetricFile.plain(1, 0);
        while (long300.halves()[0] < 300) {
            long300.head.add(0);
        }
        FontDesk both = Trial.with(long300, 0);
        Due.is("a half from both its bytes", 300, () -> both.count(2));
        byte[] swapped = Trial.sample().bytes();
        for (int i = 0; i < 24; i += 2) {
            byte high = swapped[i];
            swapped[i] = swapped[i + 1];
            swapped[i + 1] = high;
        }
        Trial.faultIs("halves with the lowest byte first", 1, swapped);
    }

    /** Rows of all different lengths, and the last one of each is used. */
    private static MetricFile uneven() {
        MetricFile f = new MetricFile();
        f.head.add(-1);
        f.bc = 'a';
        fill(f.widths, 4, 100);
        fill(f.heights, 5, 200);
        fill(f.depths, 6, 300);
        fill(f.italics, 7, 400);
        while (f.steps.size() < 7) {
            f.step(128, 'b', KERN, f.steps.size());
        }
        f.step(128, 'b', KERN, 8);
        fill(f.kerns, 9, 500);
        while (f.pieces.size() < 10) {
            f.pieces.add(MetricFile.word(0, 0, 0, 'a'));
        }
        fill(f.parameters, 11, 600);
        f.infos.add(MetricFile.word(3, 4 << 4 | 5, 6 << 2 | 1, 7));
        f.infos.add(MetricFile.word(2, 1 << 4 | 3, 2 << 2 | 3, 9));
        return f;
    }

    /** Number k of the row is base + k in whole scaled points at a size of 65536. */
    private static void fill(List<Integer> row, int length, int base) {
        while (row.size() < length) {
            row.add(16 * (base + row.size()));
        }
    }

    private static void twelveHalves() {
        Doc.says("It begins with twelve halves: how many words it has in all (LF), LH, BC, EC, NW, NH, ND, NI, NL, NK, "
            + "NE, NP.");
        for (int n = 0; n <= 24; n++) {
            Trial.faultIs("a file of " + n + " bytes", 1, Arrays.copyOf(Trial.sample().bytes(), n));
            Trial.faultIs("a file of " + n + " bytes 0", 1, new byte[n]);
        }
        Trial.faultIs("the halves alone", 1, Arrays.copyOf(Trial.sample().force(0, 6).bytes(), 24));
        Trial.faultIs("rows of all lengths", 0, uneven());
        FontDesk desk = Trial.with(uneven(), 65536);
        Due.is("LF", 6 + 3 + 2 + 4 + 5 + 6 + 7 + 8 + 9 + 10 + 11, () -> desk.count(2));
        // A word moved from each row in turn to the last row: then the last one of that row is missing.
        int[] faults = {0, 0, 0, 0, 3, 3, 3, 3, 3, 5, 3, 0};
        for (int half = 4; half < 11; half++) {
            MetricFile f = uneven();
            Trial.faultIs("one less by half " + half, faults[half],
                f.force(half, f.halves()[half] - 1).force(11, f.halves()[11] + 1));
        }
    }

    private static void halvesBelow32768() {
        Doc.says("Each is less than 32768;");
        for (int half = 0; half < 12; half++) {
            int h = half;
            Trial.faultIs("half " + half + " with 32768 more", 1, f -> f.force(h, f.halves()[h] + 32768));
            Trial.faultIs("half " + half + " of 65535", 1, f -> f.force(h, 65535));
        }
        Trial.faultIs("LF and NP with 32768 more", 1,
            f -> f.force(0, f.halves()[0] + 32768).force(11, f.halves()[11] + 32768));
        MetricFile large = MetricFile.plain('a', 1);
        while (large.halves()[0] < 32767) {
            large.head.add(-1);
        }
        Trial.faultIs("32767 words, and there", 0, large);
        large.head.add(-1);
        Trial.faultIs("32768 words, and there", 1, large);
    }

    private static void wordsThere() {
        Doc.says("LF words are there, no byte more;");
        byte[] good = Trial.sample().bytes();
        Trial.faultIs("all there", 0, good);
        for (int n = 1; n <= 9; n++) {
            Trial.faultIs(n + " bytes less", 1, Arrays.copyOf(good, good.length - n));
            Trial.faultIs(n + " bytes more", 1, Arrays.copyOf(good, good.length + n));
        }
        byte[] twice = Arrays.copyOf(good, 2 * good.length);
        System.arraycopy(good, 0, twice, good.length, good.length);
        Trial.faultIs("two files in one draft", 1, twice);
    }

    private static void sumOfRows() {
        Doc.says("LF = 6 + LH + (EC - BC + 1) + NW + NH + ND + NI + NL + NK + NE + NP;");
        for (int half = 1; half < 12; half++) {
            int h = half;
            Trial.faultIs("half " + half + " one more", 1, f -> f.force(h, f.halves()[h] + 1));
            Trial.faultIs("half " + half + " one less", 1, f -> f.force(h, f.halves()[h] - 1));
        }
        byte[] more = Trial.sample().force(0, Trial.sample().halves()[0] + 1).bytes();
        Trial.faultIs("a word more than the rows", 1, Arrays.copyOf(more, more.length + 4));
        byte[] less = Trial.sample().force(0, Trial.sample().halves()[0] - 1).bytes();
        Trial.faultIs("a word less than the rows", 1, Arrays.copyOf(less, less.length - 4));
        Trial.faultIs("of BC and EC only what is between", 0, f -> f.force(2, 'a' - 1).force(3, 'f' - 1));
    }

    /** Takes words from one half and gives them to the last row, so that only the one half's own limit is hurt. */
    private static MetricFile moved(MetricFile f, int half, int to) {
        int[] now = f.halves();
        return f.force(half, to).force(11, now[11] + now[half] - to);
    }

    private static void leastHead() {
        Doc.says("LH is at least 2,");
        Trial.faultIs("LH 0", 1, moved(Trial.sample(), 1, 0));
        Trial.faultIs("LH 1", 1, moved(Trial.sample(), 1, 1));
        Trial.faultIs("LH 2", 0, f -> Due.same("LH", 2, f.halves()[1]));
        Trial.faultIs("LH 3", 0, f -> f.head.add(7));
        MetricFile none = MetricFile.plain(1, 0);
        none.head.clear();
        Trial.faultIs("no head at all", 1, none);
        none.head.add(ONE);
        Trial.faultIs("a head of one", 1, none);
        none.head.add(ONE);
        Trial.faultIs("a head of two", 0, none);
    }

    private static void firstCode() {
        Doc.says("BC at most EC + 1,");
        for (int ec : new int[] {0, 1, 97, 254, 255}) {
            MetricFile none = MetricFile.plain(ec + 1, 0);
            none.parameters.addAll(List.of(0, 0, 0));
            Trial.faultIs("BC = EC + 1, EC " + ec, 0, none);
            Trial.faultIs("BC = EC + 2, EC " + ec, 1, none.force(2, ec + 2).force(11, 4));
            Trial.faultIs("BC = EC + 3, EC " + ec, 1, none.force(2, ec + 3).force(11, 5));
            Trial.faultIs("BC = EC, EC " + ec, 0, MetricFile.plain(ec, 1));
        }
        Trial.faultIs("BC far behind", 1, f -> f.force(2, 'f' + 1 + 1000).force(11, 2 + 6 + 1000));
    }

    private static void lastCode() {
        Doc.says("EC at most 255");
        Trial.faultIs("EC 255, 256 characters", 0, MetricFile.plain(0, 256));
        Trial.faultIs("EC 255, one character", 0, MetricFile.plain(255, 1));
        Trial.faultIs("EC 255, none", 0, MetricFile.plain(256, 0));
        Trial.faultIs("EC 256, 257 characters", 1, MetricFile.plain(0, 257));
        Trial.faultIs("EC 256, 256 characters", 1, MetricFile.plain(1, 256));
        Trial.faultIs("EC 256, one character", 1, MetricFile.plain(256, 1));
        Trial.faultIs("EC 256, none", 1, MetricFile.plain(257, 0));
        Trial.faultIs("EC 353, BC 353", 1, MetricFile.plain(256 + 'a', 1));
    }

    private static void noCharacters() {
        Doc.says("(if BC = EC + 1, there are no characters),");
        for (int bc : new int[] {1, 98, 255, 256}) {
            FontDesk desk = Trial.with(MetricFile.plain(bc, 0), 65536);
            Due.is("no characters", 0, () -> desk.count(3));
            for (int c = -1; c <= 257; c++) {
                int code = c;
                Due.is("no character " + c, Due.INDEX, () -> desk.metric(0, code, 0));
            }
            Trial.sets(desk, "", "");
            desk.put(bc, 1);
            Due.is("no word of one", Due.ARGUMENT, () -> desk.set(0));
            desk.put(bc - 1, 1);
            Due.is("nor of the one before", Due.ARGUMENT, () -> desk.set(0));
        }
    }

    private static void mostPieces() {
        Doc.says("NE at most 256,");
        MetricFile many = MetricFile.plain('a', 1);
        while (many.pieces.size() < 255) {
            many.pieces.add(MetricFile.word(0, 0, 0, 'a'));
        }
        Trial.faultIs("255 pieces", 0, many);
        many.pieces.add(MetricFile.word(0, 0, 0, 'a'));
        Trial.faultIs("256 pieces", 0, many);
        many.pieces.add(MetricFile.word(0, 0, 0, 'a'));
        Trial.faultIs("257 pieces", 1, many);
        Trial.faultIs("no pieces", 0, MetricFile.plain('a', 1));
    }

    private static void leastRows() {
        Doc.says("each of NW, NH, ND, NI at least 1.");
        for (int half = 4; half <= 7; half++) {
            Trial.faultIs("half " + half + " of 0", 1, moved(Trial.sample(), half, 0));
            MetricFile bare = MetricFile.plain(1, 0);
            bare.widths.remove(1);
            Due.same("the least row", 1, bare.halves()[half]);
            Trial.faultIs("all of 1", 0, bare);
            Trial.faultIs("half " + half + " alone of 0", 1, moved(bare, half, 0));
        }
        MetricFile rest = MetricFile.plain(1, 0);
        Due.same("no steps, kerns, pieces and parameters", 0, rest.steps.size() + rest.kerns.size()
            + rest.pieces.size() + rest.parameters.size());
        Trial.faultIs("the other rows may be empty", 0, rest);
    }

    private static void rowsInOrder() {
        Doc.says("Behind these words stand, each a word: LH of the head (the second one is the DESIGN SIZE), then for each "
            + "code BC .. EC its INFO, then NW widths, NH heights, ND depths, NI italics, NL STEPS, NK kerns, NE pieces, "
            + "NP parameters.");
        FontDesk desk = Trial.with(uneven(), 65536);
        long[][] want = {{103, 204, 305, 406, 1, 7}, {102, 201, 303, 402, 3, 9}};
        for (int what = 0; what < 6; what++) {
            int w = what;
            Due.is("a, " + what, want[0][what], () -> desk.metric(0, 'a', w));
            Due.is("b, " + what, want[1][what], () -> desk.metric(0, 'b', w));
        }
        Trial.sets(desk, "ab", "a<508>b");
        Due.is("the first parameter", 600, () -> desk.parameter(0, 1));
        Due.is("the second parameter", 601, () -> desk.parameter(0, 2));
        Due.is("the last parameter", 610, () -> desk.parameter(0, 11));
        Due.is("none behind it", 0, () -> desk.parameter(0, 12));
        for (int length = 2; length <= 5; length++) {
            MetricFile f = Trial.sample();
            f.head.clear();
            f.head.addAll(List.of(-3, 7 * ONE));
            while (f.head.size() < length) {
                f.head.add(-9);
            }
            FontDesk sized = Trial.with(f, 0);
            Due.is("the design size in a head of " + length, 7 * 65536, () -> sized.count(4));
        }
    }

    // ---- fractions

    private static void fractionsWithSign() {
        Doc.says("A FRACTION is a word as a number with its sign, in parts of 1048576.");
        int[][] wordAndPoints = {{ONE, 65536}, {-ONE, -65536}, {16, 1}, {-16, -1}, {0, 0}, {ONE / 2, 32768},
            {0xFFFFFFF0, -1}, {0xFF000000, -16 * 65536}, {0x00FFFFF0, 16 * 65536 - 1}};
        for (int[] w : wordAndPoints) {
            MetricFile f = MetricFile.plain('a', 1);
            f.widths.set(1, w[0]);
            f.parameters.addAll(List.of(0, w[0]));
            FontDesk desk = Trial.with(f, 65536);
            Due.is("width " + w[0], w[1], () -> desk.metric(0, 'a', 0));
            Due.is("parameter " + w[0], w[1], () -> desk.parameter(0, 2));
        }
    }

    private static List<Integer> rowOf(MetricFile f, int row) {
        return List.of(f.widths, f.heights, f.depths, f.italics, f.kerns, f.parameters).get(row);
    }

    /** Six rows of four, all good. */
    private static MetricFile fours() {
        MetricFile f = MetricFile.plain('a', 1);
        for (int row = 0; row < 6; row++) {
            while (rowOf(f, row).size() < 4) {
                rowOf(f, row).add(1);
            }
        }
        return f;
    }

    private static void fractionsInRange() {
        Doc.says("All widths, heights, depths, italics, kerns, and parameters but the first, are fractions from -16 on and "
            + "below 16;");
        int[][] wordAndFault = {{16 * ONE - 1, 0}, {16 * ONE, 4}, {MOST, 4}, {-16 * ONE, 0}, {-16 * ONE - 1, 4},
            {LEAST, 4}};
        for (int row = 0; row < 6; row++) {
            for (int k = row == 4 ? 0 : 1; k < 4; k++) {
                for (int[] w : wordAndFault) {
                    MetricFile f = fours();
                    rowOf(f, row).set(k, w[0]);
                    Trial.faultIs("row " + row + ", " + k + ": " + w[0], w[1], f);
                }
            }
        }
        for (int word : new int[] {16 * ONE, MOST, -16 * ONE - 1, LEAST}) {
            Trial.faultIs("the first parameter " + word, 0, f -> f.parameters.set(0, word));
        }
    }

    private static void firstOnesAreZero() {
        Doc.says("the first of the widths, of the heights, of the depths and of the italics is 0.");
        for (int row = 0; row < 6; row++) {
            for (int word : new int[] {1, -1, ONE, -16 * ONE}) {
                MetricFile f = fours();
                rowOf(f, row).set(0, word);
                Trial.faultIs("row " + row + " begins with " + word, row < 4 ? 4 : 0, f);
            }
            MetricFile f = fours();
            rowOf(f, row).set(0, 0);
            rowOf(f, row).set(1, 0);
            Trial.faultIs("row " + row + " begins with 0 and 0", 0, f);
        }
    }

    private static void leastDesignSize() {
        Doc.says("The design size is at least 1048576 (with its sign).");
        int[][] wordAndFault = {{1048576, 0}, {1048577, 0}, {MOST, 0}, {1048575, 2}, {1, 2}, {0, 2}, {-1, 2},
            {-1048576, 2}, {LEAST, 2}};
        for (int[] w : wordAndFault) {
            Trial.faultIs("design size " + w[0], w[1], f -> f.head.set(1, w[0]));
        }
    }

    private static void scaledRoundedDown() {
        Doc.says("At a SIZE of z scaled points a fraction f is f * z / 1048576 of them, rounded down.");
        int[][] wordSizePoints = {{1, 1, 0}, {-1, 1, -1}, {ONE - 1, 1, 0}, {ONE, 1, 1}, {-ONE, 1, -1}, {-ONE - 1, 1, -2},
            {1, 1048576, 1}, {1, 1048575, 0}, {-1, 1048575, -1}, {-1, 1048576, -1}, {-1, 1048577, -2},
            {16 * ONE - 1, 134217727, 2147483504}, {-16 * ONE, 134217727, -2147483632},
            {1, 134217727, 127}, {-1, 134217727, -128}, {16 * ONE - 1, 1, 15}, {-16 * ONE, 1, -16}};
        for (int[] w : wordSizePoints) {
            MetricFile f = fours().info('a', 1, 0x11, 4 | 1, 0).step(128, 'a', KERN, 1);
            for (int row = 0; row < 6; row++) {
                rowOf(f, row).set(1, w[0]);
            }
            FontDesk desk = Trial.with(f, w[1]);
            for (int what = 0; what < 4; what++) {
                int now = what;
                Due.is(w[0] + " at " + w[1] + ", what " + what, w[2], () -> desk.metric(0, 'a', now));
            }
            Due.is(w[0] + " at " + w[1] + ", parameter", w[2], () -> desk.parameter(0, 2));
            Trial.sets(desk, "aa", "a<" + w[2] + ">a");
        }
    }

    // ---- infos and pieces

    /** 256 widths, 16 heights, 16 depths and 64 italics, of which the first and the last character use the last. */
    private static MetricFile full(int characters) {
        MetricFile f = MetricFile.plain(0, characters);
        fill(f.widths, 256, 1000);
        fill(f.heights, 16, 2000);
        fill(f.depths, 16, 3000);
        fill(f.italics, 64, 4000);
        return f;
    }

    private static void infosInRows() {
        Doc.says("INFO, bytes a, b, c, d: width a; height b / 16, depth b % 16; italic c / 4 (these are numbers in the rows of "
            + "them, and must be there); TAG c % 4, REST d.");
        for (int code : new int[] {0, 100, 255}) {
            FontDesk desk = Trial.with(full(256).info(code, 255, 0xFF, 0xFC, 9), 65536);
            for (int what = 0; what < 4; what++) {
                int w = what;
                Due.is("the last of row " + what, new int[] {1255, 2015, 3015, 4063}[what], () -> desk.metric(0, code, w));
            }
            for (int row = 0; row < 4; row++) {
                MetricFile less = full(256).info(code, 255, 0xFF, 0xFC, 9);
                rowOf(less, row).remove(rowOf(less, row).size() - 1);
                Trial.faultIs("code " + code + ", row " + row + " one less", 3, less);
            }
        }
        int[][] infoAndFault = {{1, 0x11, 4, 0}, {2, 0, 0, 3}, {255, 0, 0, 3}, {1, 0x20, 0, 3}, {1, 0xF0, 0, 3},
            {1, 0x02, 0, 3}, {1, 0x0F, 0, 3}, {1, 0, 8, 3}, {1, 0, 0xFC, 3}, {1, 0, 7, 0}, {1, 0, 11, 3}};
        for (int[] w : infoAndFault) {
            Trial.faultIs("info " + Arrays.toString(w), w[3], f -> f.info('b', w[0], w[1], w[2], 0));
        }
        Trial.faultIs("a height where there are only depths", 3, MetricFile.plain('a', 1).info('a', 1, 0x10, 0, 0));
        MetricFile tall = MetricFile.plain('a', 1).info('a', 1, 0x10, 0, 0);
        tall.heights.add(0);
        Trial.faultIs("b / 16 is the height", 0, tall);
        Trial.faultIs("b % 16 is not", 3, tall.info('a', 1, 0x01, 0, 0));
        FontDesk tagged = Trial.with(Trial.sample().info('b', 1, 0, 3, 0).info('c', 1, 0, 2, 'b')
            .info('d', 1, 0, 1, 1).info('e', 1, 0, 4, 200), 65536);
        int[][] tagAndRest = {{1, 0}, {3, 0}, {2, 'b'}, {1, 1}, {0, 0}, {0, 0}};
        for (int c = 'a'; c <= 'f'; c++) {
            int code = c;
            Due.is("tag of " + (char) c, tagAndRest[c - 'a'][0], () -> tagged.metric(0, code, 4));
            Due.is("rest of " + (char) c, tagAndRest[c - 'a'][1], () -> tagged.metric(0, code, 5));
        }
    }

    private static void infosOfNoCharacter() {
        Doc.says("If a is 0 there is no such character (b, c, d are not looked at).");
        for (int tag = 0; tag < 4; tag++) {
            for (int rest : new int[] {0, 'e', 255}) {
                MetricFile f = Trial.sample().info('e', 0, 255, 0xFC | tag, rest);
                Trial.faultIs("no character with tag " + tag + ", rest " + rest, 0, f);
                FontDesk desk = Trial.with(f, 65536);
                Due.is("five are there", 5, () -> desk.count(3));
                for (int what = 0; what < 6; what++) {
                    int w = what;
                    Due.is("no metric " + w, Due.INDEX, () -> desk.metric(0, 'e', w));
                }
                Trial.word(desk, "ae");
                Due.is("not in a word", Due.ARGUMENT, () -> desk.set(0));
            }
        }
        Trial.faultIs("not the rest of tag 2", 3, f -> f.info('e', 0, 0, 0, 0).info('b', 1, 0, 2, 'e'));
        Trial.faultIs("not a step's sign", 5, f -> f.info('e', 0, 0, 0, 0).step(128, 'e', KERN, 0));
        Trial.faultIs("not a ligature", 5, f -> f.info('e', 0, 0, 0, 0).step(128, 'a', 0, 'e'));
        Trial.faultIs("not a piece", 6, f -> f.info('e', 0, 0, 0, 0).pieces.add(MetricFile.word(0, 0, 0, 'e')));
    }

    /** So many steps, all the same and the end of a program. */
    private static MetricFile steps(int count) {
        MetricFile f = MetricFile.plain('a', 2);
        while (f.steps.size() < count) {
            f.step(128, 'b', 0, 'a');
        }
        return f;
    }

    private static void tagOne() {
        Doc.says("Tag 1: its PROGRAM begins at step d (which must be there);");
        Trial.faultIs("no step at all", 3, steps(0).program('a', 0));
        Trial.faultIs("the only step", 0, steps(1).program('a', 0));
        Trial.faultIs("behind the only step", 3, steps(1).program('a', 1));
        Trial.faultIs("step 255 of 256", 0, steps(256).program('a', 255));
        Trial.faultIs("step 255 of 255", 3, steps(255).program('a', 255));
        Trial.faultIs("the last character, too", 3, steps(1).program('b', 1));
        MetricFile f = MetricFile.plain('a', 3).step(128, 'b', 0, 'c').step(128, 'b', 1, 'c').program('a', 1);
        Trial.sets(f, "ab", "(c)b");
        Trial.sets(f.program('a', 0), "ab", "(c)");
    }

    private static void tagTwo() {
        Doc.says("2: d is another one that is there, and going on from a character to the rest, as long as the tag is 2, never "
            + "comes back to it;");
        Trial.faultIs("another one", 0, f -> f.info('b', 1, 0, 2, 'c'));
        Trial.faultIs("itself", 3, f -> f.info('b', 1, 0, 2, 'b'));
        for (int code : new int[] {0, 'a' - 1, 'g', 255}) {
            Trial.faultIs("not there: " + code, 3, f -> f.info('b', 1, 0, 2, code));
        }
        Trial.faultIs("in a gap", 3, f -> f.info('b', 1, 0, 2, 'e').info('e', 0, 0, 0, 0));
        Trial.faultIs("two round", 3, f -> f.info('b', 1, 0, 2, 'c').info('c', 1, 0, 2, 'b'));
        Trial.faultIs("three round", 3, f -> f.info('b', 1, 0, 2, 'd').info('d', 1, 0, 2, 'c').info('c', 1, 0, 2, 'b'));
        Trial.faultIs("two round, one ahead", 3,
            f -> f.info('b', 1, 0, 2, 'c').info('c', 1, 0, 2, 'd').info('d', 1, 0, 2, 'c'));
        Trial.faultIs("down, up and to an end", 0,
            f -> f.info('d', 1, 0, 2, 'f').info('f', 1, 0, 2, 'b').info('b', 1, 0, 2, 'c'));
        Trial.faultIs("two to the same one", 0, f -> f.info('b', 1, 0, 2, 'd').info('c', 1, 0, 2, 'd'));
        for (int tag : new int[] {0, 1, 3}) {
            MetricFile f = MetricFile.plain(0, 2).info(0, 1, 0, 2, 1).info(1, 1, 0, tag, 0).step(128, 0, 0, 1);
            f.pieces.add(0);
            Trial.faultIs("back by a rest of tag " + tag, 0, f);
        }
        MetricFile chain = MetricFile.plain(0, 256);
        for (int c = 0; c < 255; c++) {
            chain.info(c, 1, 0, 2, c + 1);
        }
        Trial.faultIs("all 256 to an end", 0, chain);
        Trial.faultIs("all 256 round", 3, chain.info(255, 1, 0, 2, 0));
        Trial.faultIs("255 round, one ahead", 3, chain.info(255, 1, 0, 2, 1));
        Trial.faultIs("the last one round itself", 3, chain.info(255, 1, 0, 2, 255));
    }

    private static void tagThree() {
        Doc.says("3: d is below NE.");
        for (int pieces : new int[] {0, 1, 2, 255, 256}) {
            MetricFile f = MetricFile.plain('a', 1);
            while (f.pieces.size() < pieces) {
                f.pieces.add(MetricFile.word(0, 0, 0, 'a'));
            }
            if (pieces > 0) {
                Trial.faultIs("the last of " + pieces, 0, f.info('a', 1, 0, 3, pieces - 1));
            }
            if (pieces < 256) {
                Trial.faultIs("behind the last of " + pieces, 3, f.info('a', 1, 0, 3, pieces));
            }
        }
    }

    private static void pieces() {
        Doc.says("Pieces: bytes, the first three 0 or characters that are there, the fourth one that is there.");
        int[][] bytes = {{0, 0, 0, 'a'}, {'a', 'b', 'c', 'f'}, {'f', 'f', 'f', 'f'}};
        for (int[] b : bytes) {
            Trial.faultIs("a good piece", 0, f -> f.pieces.set(0, MetricFile.word(b[0], b[1], b[2], b[3])));
            for (int i = 0; i < 4; i++) {
                for (int code : new int[] {1, 'a' - 1, 'e', 'g', 255}) {
                    int[] wrong = b.clone();
                    wrong[i] = code;
                    Trial.faultIs("byte " + i + " of " + code, 6, f -> f.info('e', 0, 0, 0, 0).pieces.set(0,
                        MetricFile.word(wrong[0], wrong[1], wrong[2], wrong[3])));
                }
            }
            Trial.faultIs("the fourth 0", 6, f -> f.pieces.set(0, MetricFile.word(b[0], b[1], b[2], 0)));
            Trial.faultIs("the fourth of the last one 0", 6, f -> f.pieces.add(MetricFile.word(b[0], b[1], b[2], 0)));
        }
        MetricFile zero = MetricFile.plain(0, 1);
        zero.pieces.add(0);
        Trial.faultIs("the fourth 0, which is there", 0, zero);
    }

    // ---- faults

    private static void faultNumbers() {
        Doc.says("A font is refused with the first FAULT: 1 the halves, or how many bytes; 2 the design size; 3 an info; 4 a "
            + "fraction, or a first one; 5 a step; 6 a piece; 7 a program that does not end.");
        Trial.faultIs("no fault", 0, Trial.sample());
        for (int fault = 1; fault <= 7; fault++) {
            for (boolean last : new boolean[] {false, true}) {
                MetricFile f = Trial.sample();
                Trial.spoil(f, fault, last);
                Trial.faultIs("fault " + fault, fault, f);
            }
        }
        Trial.faultIs("a fraction", 4, f -> f.widths.set(1, 16 * ONE));
        Trial.faultIs("a first one", 4, f -> f.italics.set(0, 1));
        byte[] good = Trial.sample().bytes();
        Trial.faultIs("how many bytes", 1, Arrays.copyOf(good, good.length - 1));
    }

    private static void faultOrder() {
        Doc.says("(Each for the whole file ahead of the next.)");
        for (int fault = 1; fault <= 7; fault++) {
            for (int next = fault + 1; next <= 7; next++) {
                MetricFile f = Trial.sample();
                Trial.spoil(f, next, false);
                Trial.spoil(f, fault, true);
                Trial.faultIs(fault + " ahead of " + next, fault, f);
            }
        }
        MetricFile all = Trial.sample();
        for (int fault = 7; fault >= 1; fault--) {
            Trial.spoil(all, fault, true);
            Trial.faultIs(fault + " ahead of all behind it", fault, all);
        }
    }
}
