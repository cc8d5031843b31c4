import java.util.Arrays;

/** Fonts read from their binary metric files, and words set in them; ../shared/DOC.md has the promises. */
public final class FontDesk {
    public static final int NONE = -1;

    private static final int MAX_FONTS = 32;
    private static final int MAX_SIZE = 134217727;

    private final Draft draft = new Draft();
    private final Font[] fonts = new Font[MAX_FONTS];
    private final Endings endings = new Endings();
    private final Setting setting = new Setting();
    private int fontCount = 0;
    private int lastFault = 0;

    public FontDesk() {
    }

    public boolean put(long v, int n) {
        return draft.append(v, n);
    }

    public int load(int z) throws IllegalArgumentException, IllegalStateException {
        if (z < 0 || z > MAX_SIZE || fontCount >= MAX_FONTS) {
            throw new IllegalStateException("no such size, or no room for a font");
        }
        Font font = FileCheck.halvesFit(draft) ? new Font(draft) : null;
        draft.clear();
        lastFault = FileCheck.faultOf(font);
        if (font != null && lastFault == 0 && !endings.allEnd(font)) {
            lastFault = 7;
        }
        if (font == null || lastFault != 0) {
            throw new IllegalArgumentException("the file is refused");
        }
        font.scaleTo(z);
        fonts[fontCount] = font;
        fontCount++;
        return fontCount - 1;
    }

    public int fault() {
        return lastFault;
    }

    public int metric(int font, int c, int what) throws IndexOutOfBoundsException {
        Font found = fontAt(font);
        if (found == null || !found.hasCharacter(c) || what < 0 || what > 5) {
            throw new IndexOutOfBoundsException("no such font, character or what");
        }
        return found.measure(c, what);
    }

    public int parameter(int font, int k) throws IndexOutOfBoundsException {
        Font found = fontAt(font);
        if (found == null || k < 1) {
            throw new IndexOutOfBoundsException("no such font or parameter");
        }
        return found.scaledParameter(k);
    }

    public int set(int font) throws IndexOutOfBoundsException, IllegalArgumentException, IllegalStateException {
        Font found = fontAt(font);
        boolean isWord = found != null && setting.begin(found, draft);
        draft.clear();
        if (found == null) {
            setting.forget();
            throw new IndexOutOfBoundsException("no such font");
        }
        if (!isWord) {
            setting.forget();
            throw new IllegalArgumentException("the draft is no word of this font");
        }
        if (!setting.run(found)) {
            setting.forget();
            throw new IllegalStateException("the word grows too long, or takes too long");
        }
        return setting.itemCount();
    }

    public int item(int k, int what) {
        return setting.itemPart(k, what);
    }

    public long width() {
        return setting.totalWidth();
    }

    public int count(int what) {
        if (what == 0) {
            return fontCount;
        }
        if (what == 1) {
            return draft.size();
        }
        if (what < 2 || what > 5) {
            return NONE;
        }
        Font latest = fontAt(fontCount - 1);
        return latest == null ? 0 : latest.tally(what);
    }

    private Font fontAt(int font) {
        return font >= 0 && font < fontCount && font < MAX_FONTS ? fonts[font] : null;
    }

    /** The bytes drafted so far. */
    private static final class Draft {
        private static final int MAX_BYTES = 131072;

        private byte[] bytes = new byte[64];
        private int length = 0;

        boolean append(long v, int n) {
            if (n < 1 || n > 8 || n > MAX_BYTES - length) {
                return false;
            }
            makeRoom(length + n);
            for (int shift = 8 * (n - 1); shift >= 0 && length < bytes.length; shift -= 8) {
                bytes[length] = (byte) (v >> shift);
                length++;
            }
            return true;
        }

        // Doubling, since most objects draft little and a full row for each would fill the room.
        private void makeRoom(int wanted) {
            if (wanted > bytes.length) {
                bytes = Arrays.copyOf(bytes, Math.min(MAX_BYTES, Math.max(wanted, 2 * bytes.length)));
            }
        }

        void clear() {
            length = 0;
        }

        int size() {
            return length;
        }

        int byteAt(int k) {
            return k >= 0 && k < length && k < bytes.length ? bytes[k] & 255 : 0;
        }

        int halfAt(int k) {
            return byteAt(2 * k) << 8 | byteAt(2 * k + 1);
        }

        int wordAt(int k) {
            return halfAt(2 * k) << 16 | halfAt(2 * k + 1);
        }
    }

    /** A file cut into its rows. Whether they are as they must be is FileCheck's and Endings' to say. */
    private static final class Font {
        private static final int LEFT_EDGE = 256;
        private static final int CODES = 256;

        private static final int HEAD = 0;
        private static final int INFOS = 1;
        private static final int WIDTHS = 2;
        private static final int ITALICS = 5;
        private static final int STEPS = 6;
        private static final int KERNS = 7;
        private static final int PIECES = 8;
        private static final int PARAMETERS = 9;
        private static final int ROWS = 10;
        private static final int FIRST_ROW = 6;

        private final int[] words;
        private final int[] start = new int[ROWS];
        private final int[] length = new int[ROWS];
        // By code, 0 where there is no character: what else such an info says is never looked at.
        private final int[] infos = new int[CODES];
        private int size = 0;

        // Only for a draft whose halves fit.
        Font(Draft draft) {
            words = new int[draft.size() / 4];
            for (int k = 0; k < words.length; k++) {
                words[k] = draft.wordAt(k);
            }
            int firstCode = draft.halfAt(2);
            length[HEAD] = draft.halfAt(1);
            length[INFOS] = draft.halfAt(3) - firstCode + 1;
            for (int row = WIDTHS; row < ROWS; row++) {
                length[row] = draft.halfAt(row + 2);
            }
            int next = FIRST_ROW;
            for (int row = 0; row < ROWS; row++) {
                start[row] = next;
                next += length[row];
            }
            for (int c = 0; c < CODES; c++) {
                int info = wordAt(INFOS, c - firstCode);
                infos[c] = info >>> 24 == 0 ? 0 : info;
            }
        }

        void scaleTo(int z) {
            size = z == 0 ? designSize() >> 4 : z;
        }

        int rowLength(int row) {
            return row >= 0 && row < ROWS ? length[row] : 0;
        }

        int wordAt(int row, int k) {
            if (row < 0 || row >= ROWS || k < 0 || k >= length[row]) {
                return 0;
            }
            int at = start[row] + k;
            return at >= 0 && at < words.length ? words[at] : 0;
        }

        int designSize() {
            return wordAt(HEAD, 1);
        }

        int infoOf(int c) {
            return c >= 0 && c < CODES ? infos[c] : 0;
        }

        boolean hasCharacter(int c) {
            return infoOf(c) != 0;
        }

        int tagOf(int c) {
            return infoOf(c) >>> 8 & 3;
        }

        int restOf(int c) {
            return infoOf(c) & 255;
        }

        // The place of a character's width (0), height (1), depth (2) or italic (3) in the row of these.
        int placeOf(int c, int what) {
            int info = infoOf(c);
            switch (what) {
                case 0:
                    return info >>> 24;
                case 1:
                    return info >>> 20 & 15;
                case 2:
                    return info >>> 16 & 15;
                default:
                    return info >>> 10 & 63;
            }
        }

        int scaled(int fraction) {
            return (int) ((long) fraction * size >> 20);
        }

        int measure(int c, int what) {
            if (what == 4) {
                return tagOf(c);
            }
            if (what == 5) {
                return tagOf(c) == 0 ? 0 : restOf(c);
            }
            return scaled(wordAt(WIDTHS + what, placeOf(c, what)));
        }

        int scaledParameter(int k) {
            int word = wordAt(PARAMETERS, k - 1);
            return k == 1 ? word >> 4 : scaled(word);
        }

        int skipOf(int step) {
            return wordAt(STEPS, step) >>> 24;
        }

        int signOf(int step) {
            return wordAt(STEPS, step) >>> 16 & 255;
        }

        int deedOf(int step) {
            return wordAt(STEPS, step) >>> 8 & 255;
        }

        int remainderOf(int step) {
            return wordAt(STEPS, step) & 255;
        }

        boolean isJump(int step) {
            return skipOf(step) > 128;
        }

        int targetOf(int step) {
            return 256 * deedOf(step) + remainderOf(step);
        }

        boolean isKern(int step) {
            return deedOf(step) >= 128;
        }

        int kernPlaceOf(int step) {
            return 256 * (deedOf(step) - 128) + remainderOf(step);
        }

        int scaledKern(int step) {
            return scaled(wordAt(KERNS, kernPlaceOf(step)));
        }

        int boundary() {
            return skipOf(0) == 255 ? signOf(0) : NONE;
        }

        // The first step that is looked at for x, a character or the left edge; NONE without any.
        int programStart(int x) {
            int begin = NONE;
            if (x == LEFT_EDGE) {
                int last = rowLength(STEPS) - 1;
                begin = skipOf(last) == 255 ? last : NONE;
            } else if (tagOf(x) == 1) {
                begin = restOf(x);
            }
            if (!isJump(begin)) {
                return begin;
            }
            int target = targetOf(begin);
            return isJump(target) ? NONE : target;
        }

        // The step behind this one in its program; NONE if the program ends with it.
        int nextStep(int step) {
            int skip = skipOf(step);
            return skip >= 128 ? NONE : step + skip + 1;
        }

        int stepFor(int x, int sought) {
            int step = programStart(x);
            for (int k = 0; k < rowLength(STEPS) && step != NONE; k++) {
                if (!isJump(step) && signOf(step) == sought) {
                    return step;
                }
                step = nextStep(step);
            }
            return NONE;
        }

        int tally(int what) {
            switch (what) {
                case 2:
                    return words.length;
                case 3:
                    return characterCount();
                case 4:
                    return size;
                default:
                    return boundary();
            }
        }

        private int characterCount() {
            int found = 0;
            for (int c = 0; c < CODES; c++) {
                if (infos[c] != 0) {
                    found++;
                }
            }
            return found;
        }
    }

    /** The faults 1 to 6, each for the whole file. */
    private static final class FileCheck {
        private static final int FRACTION_ONE = 1048576;

        static boolean halvesFit(Draft draft) {
            if (draft.size() < 24 || draft.size() != 4 * draft.halfAt(0)) {
                return false;
            }
            for (int k = 0; k < 12; k++) {
                int least = k == 1 ? 2 : k >= 4 && k <= 7 ? 1 : 0;
                if (draft.halfAt(k) < least || draft.halfAt(k) >= 32768) {
                    return false;
                }
            }
            int codes = draft.halfAt(3) - draft.halfAt(2) + 1;
            if (codes < 0 || draft.halfAt(3) > 255 || draft.halfAt(10) > 256) {
                return false;
            }
            int sum = 6 + draft.halfAt(1) + codes;
            for (int k = 4; k < 12; k++) {
                sum += draft.halfAt(k);
            }
            return sum == draft.halfAt(0);
        }

        // Null is the font of a draft whose halves do not fit.
        static int faultOf(Font font) {
            if (font == null) {
                return 1;
            }
            if (font.designSize() < FRACTION_ONE) {
                return 2;
            }
            if (!infosFit(font)) {
                return 3;
            }
            if (!fractionsFit(font)) {
                return 4;
            }
            if (!stepsFit(font)) {
                return 5;
            }
            return piecesFit(font) ? 0 : 6;
        }

        private static boolean infosFit(Font font) {
            for (int c = 0; c < Font.CODES; c++) {
                if (font.hasCharacter(c) && !(placesFit(font, c) && tagFits(font, c))) {
                    return false;
                }
            }
            return true;
        }

        private static boolean placesFit(Font font, int c) {
            for (int what = 0; what < 4; what++) {
                if (font.placeOf(c, what) >= font.rowLength(Font.WIDTHS + what)) {
                    return false;
                }
            }
            return true;
        }

        private static boolean tagFits(Font font, int c) {
            int rest = font.restOf(c);
            switch (font.tagOf(c)) {
                case 1:
                    return rest < font.rowLength(Font.STEPS);
                case 2:
                    return font.hasCharacter(rest) && chainEnds(font, c);
                case 3:
                    return rest < font.rowLength(Font.PIECES);
                default:
                    return true;
            }
        }

        // A chain of more characters than there are codes has come back to one of them.
        private static boolean chainEnds(Font font, int c) {
            int at = c;
            for (int k = 0; k < Font.CODES; k++) {
                if (font.tagOf(at) != 2) {
                    return true;
                }
                at = font.restOf(at);
                if (at == c) {
                    return false;
                }
            }
            return false;
        }

        private static boolean fractionsFit(Font font) {
            for (int row = Font.WIDTHS; row <= Font.ITALICS; row++) {
                if (font.wordAt(row, 0) != 0 || !areFractions(font, row, 1)) {
                    return false;
                }
            }
            return areFractions(font, Font.KERNS, 0) && areFractions(font, Font.PARAMETERS, 1);
        }

        private static boolean areFractions(Font font, int row, int from) {
            for (int k = from; k < font.rowLength(row); k++) {
                int word = font.wordAt(row, k);
                if (word < -16 * FRACTION_ONE || word >= 16 * FRACTION_ONE) {
                    return false;
                }
            }
            return true;
        }

        private static boolean stepsFit(Font font) {
            for (int step = 0; step < font.rowLength(Font.STEPS); step++) {
                if (!(font.isJump(step) ? jumpFits(font, step) : deedFits(font, step))) {
                    return false;
                }
            }
            return true;
        }

        private static boolean jumpFits(Font font, int step) {
            return font.targetOf(step) < font.rowLength(Font.STEPS);
        }

        private static boolean deedFits(Font font, int step) {
            int sign = font.signOf(step);
            if (!font.hasCharacter(sign) && sign != font.boundary()) {
                return false;
            }
            if (font.nextStep(step) >= font.rowLength(Font.STEPS)) {
                return false;
            }
            if (font.isKern(step)) {
                return font.kernPlaceOf(step) < font.rowLength(Font.KERNS);
            }
            return font.hasCharacter(font.remainderOf(step)) && isLigature(font.deedOf(step));
        }

        private static boolean isLigature(int deed) {
            return deed <= 3 || deed >= 5 && deed <= 7 || deed == 11;
        }

        private static boolean piecesFit(Font font) {
            for (int k = 0; k < font.rowLength(Font.PIECES); k++) {
                int piece = font.wordAt(Font.PIECES, k);
                if (!partFits(font, piece >>> 24) || !partFits(font, piece >>> 16 & 255)
                        || !partFits(font, piece >>> 8 & 255) || !font.hasCharacter(piece & 255)) {
                    return false;
                }
            }
            return true;
        }

        private static boolean partFits(Font font, int part) {
            return part == 0 || font.hasCharacter(part);
        }
    }

    /**
     * Fault 7. Of each pair x, y that a step is for it finds the sign that the machine stands behind when it has
     * come behind y, or what came in y's place. A pair whose own answer is needed for its answer does not end.
     */
    private static final class Endings {
        private static final int CODES = Font.CODES;
        private static final int SIGNS = Font.LEFT_EDGE + 1;
        private static final int UNKNOWN = 0;
        private static final int AWAITED = -1;

        private final int[] rowOf = new int[SIGNS];
        private final int[] signOf = new int[SIGNS];
        private int rows = 0;
        // For each pair (256 * row of x + y): its step and one, or 0; its answer and one, or a state; and the
        // pairs whose answers are awaited, each for the sake of the one ahead of it.
        private int[] steps = new int[0];
        private int[] answers = new int[0];
        private int[] trail = new int[0];

        boolean allEnd(Font font) {
            numberPrograms(font);
            clearTables();
            for (int row = 0; row < rows && row < SIGNS; row++) {
                noteSteps(font, row);
            }
            for (int pair = 0; pair < CODES * rows && pair < steps.length; pair++) {
                if (steps[pair] != 0 && stateOf(pair) == UNKNOWN && !ends(font, pair)) {
                    return false;
                }
            }
            return true;
        }

        // Only signs with a program get a row: the tables stay as small as the file is.
        private void numberPrograms(Font font) {
            rows = 0;
            for (int x = 0; x < SIGNS; x++) {
                rowOf[x] = NONE;
                if (font.programStart(x) != NONE && rows < SIGNS) {
                    rowOf[x] = rows;
                    signOf[rows] = x;
                    rows++;
                }
            }
        }

        private void clearTables() {
            int pairs = CODES * rows;
            if (pairs > steps.length) {
                int room = Math.min(CODES * SIGNS, Math.max(pairs, 2 * steps.length));
                steps = new int[room];
                answers = new int[room];
                trail = new int[room];
            }
            for (int pair = 0; pair < pairs && pair < steps.length && pair < answers.length; pair++) {
                steps[pair] = 0;
                answers[pair] = UNKNOWN;
            }
        }

        private void noteSteps(Font font, int row) {
            int step = font.programStart(signOf[row]);
            for (int k = 0; k < font.rowLength(Font.STEPS) && step != NONE; k++) {
                int pair = CODES * row + font.signOf(step);
                // An earlier step for the same sign is the one that is done.
                if (!font.isJump(step) && pair < steps.length && steps[pair] == 0) {
                    steps[pair] = step + 1;
                }
                step = font.nextStep(step);
            }
        }

        private boolean ends(Font font, int first) {
            int depth = awaitAnswer(first, 0);
            // A pair is awaited once, and is on top at most three times: anew, and behind each answer it needs.
            for (int turn = 0; turn < 3 * trail.length && depth > 0 && depth <= trail.length; turn++) {
                int needed = answer(font, trail[depth - 1]);
                if (needed == NONE) {
                    depth--;
                } else if (stateOf(needed) == AWAITED) {
                    return false;
                } else {
                    depth = awaitAnswer(needed, depth);
                }
            }
            return depth == 0;
        }

        // The depth of the trail with this pair on top.
        private int awaitAnswer(int pair, int depth) {
            if (pair >= 0 && pair < answers.length && depth >= 0 && depth < trail.length) {
                answers[pair] = AWAITED;
                trail[depth] = pair;
            }
            return depth + 1;
        }

        // Answers the pair, or tells the pair whose answer is needed first.
        private int answer(Font font, int pair) {
            int row = pair >> 8;
            if (pair < 0 || pair >= steps.length || row >= SIGNS) {
                return NONE;
            }
            int x = signOf[row];
            int y = pair & 255;
            int step = steps[pair] - 1;
            int deed = font.deedOf(step);
            int r = font.remainderOf(step);
            if (step < 0 || font.isKern(step) || deed == 5 || deed == 11) {
                return know(pair, y);
            }
            switch (deed) {
                case 1:
                case 7:
                    return answerAs(pair, r, y);
                case 2:
                    return answerAs(pair, x, r);
                case 3:
                    int between = endOf(x, r);
                    return between == NONE ? pairOf(x, r) : answerAs(pair, between, y);
                default:
                    return know(pair, r);
            }
        }

        private int answerAs(int pair, int x, int y) {
            int end = endOf(x, y);
            return end == NONE ? pairOf(x, y) : know(pair, end);
        }

        private int know(int pair, int end) {
            if (pair >= 0 && pair < answers.length) {
                answers[pair] = end + 1;
            }
            return NONE;
        }

        // NONE as long as it is not known.
        private int endOf(int x, int y) {
            int pair = pairOf(x, y);
            if (pair == NONE) {
                return y;
            }
            return stateOf(pair) > 0 ? stateOf(pair) - 1 : NONE;
        }

        private int stateOf(int pair) {
            return pair >= 0 && pair < answers.length ? answers[pair] : UNKNOWN;
        }

        // NONE if x has no program.
        private int pairOf(int x, int y) {
            return x < 0 || x >= SIGNS || rowOf[x] == NONE ? NONE : CODES * rowOf[x] + y;
        }
    }

    /** The machine, and the items of the word that it set last. */
    private static final class Setting {
        private static final int MAX_WORD = 200;
        private static final int MAX_SIGNS = 1000;
        private static final int MAX_STANDS = 10000;
        private static final int CHARACTER = 0;
        private static final int LIGATURE = 1;
        private static final int KERN = 2;
        private static final int EDGE = 3;

        private final int[] itemKinds = new int[MAX_SIGNS];
        private final int[] itemCodes = new int[MAX_SIGNS];
        private int items = 0;
        private long total = 0;
        // The sign that the machine stands behind, and those ahead of it, the next one last.
        private int nowKind = EDGE;
        private int nowCode = Font.LEFT_EDGE;
        private final int[] aheadKinds = new int[MAX_SIGNS];
        private final int[] aheadCodes = new int[MAX_SIGNS];
        private int ahead = 0;
        // Signs, edges and kerns that are there, wherever the machine stands.
        private int present = 0;

        void forget() {
            items = 0;
            total = 0;
        }

        // False if the draft is no word of this font.
        boolean begin(Font font, Draft draft) {
            forget();
            if (draft.size() > MAX_WORD) {
                return false;
            }
            ahead = 0;
            push(EDGE, font.boundary());
            for (int k = draft.size() - 1; k >= 0; k--) {
                if (!font.hasCharacter(draft.byteAt(k))) {
                    return false;
                }
                push(CHARACTER, draft.byteAt(k));
            }
            nowKind = EDGE;
            nowCode = Font.LEFT_EDGE;
            present = draft.size() + 2;
            return true;
        }

        // False if the word would grow beyond the limits.
        boolean run(Font font) {
            for (int stand = 0; stand < MAX_STANDS && ahead > 0 && present <= MAX_SIGNS; stand++) {
                int step = font.stepFor(nowCode, nextCode());
                if (step == NONE) {
                    goOn();
                } else if (font.isKern(step)) {
                    kern(font.scaledKern(step));
                } else {
                    ligature(font.deedOf(step), font.remainderOf(step));
                }
            }
            if (ahead > 0 || present > MAX_SIGNS) {
                return false;
            }
            passSign();
            addUp(font);
            return true;
        }

        // The right edge's is the boundary, so NONE, which no step is for, without one.
        private int nextCode() {
            return ahead > 0 && ahead <= MAX_SIGNS ? aheadCodes[ahead - 1] : NONE;
        }

        private void kern(int amount) {
            present++;
            if (present > MAX_SIGNS) {
                return;
            }
            passSign();
            addItem(KERN, amount);
            pop();
        }

        private void ligature(int deed, int r) {
            switch (deed) {
                case 0:
                    pop();
                    present--;
                    becomeLigature(r);
                    break;
                case 1:
                case 5:
                    becomeLigature(r);
                    break;
                case 2:
                case 6:
                    ahead--;
                    push(LIGATURE, r);
                    break;
                default:
                    present++;
                    push(LIGATURE, r);
                    break;
            }
            int signs = deed == 11 ? 2 : deed >= 5 ? 1 : 0;
            for (int k = 0; k < signs && present <= MAX_SIGNS; k++) {
                goOn();
            }
        }

        private void becomeLigature(int r) {
            nowKind = LIGATURE;
            nowCode = r;
        }

        private void goOn() {
            passSign();
            pop();
        }

        private void passSign() {
            if (nowKind != EDGE) {
                addItem(nowKind, nowCode);
            }
        }

        private void addItem(int kind, int code) {
            if (items >= 0 && items < MAX_SIGNS) {
                itemKinds[items] = kind;
                itemCodes[items] = code;
                items++;
            }
        }

        private void addUp(Font font) {
            for (int k = 0; k < items && k < MAX_SIGNS; k++) {
                total += itemKinds[k] == KERN ? itemCodes[k] : font.measure(itemCodes[k], 0);
            }
        }

        private void push(int kind, int code) {
            if (ahead >= 0 && ahead < MAX_SIGNS) {
                aheadKinds[ahead] = kind;
                aheadCodes[ahead] = code;
                ahead++;
            }
        }

        private void pop() {
            if (ahead > 0 && ahead <= MAX_SIGNS) {
                ahead--;
                nowKind = aheadKinds[ahead];
                nowCode = aheadCodes[ahead];
            }
        }

        int itemCount() {
            return items;
        }

        long totalWidth() {
            return total;
        }

        int itemPart(int k, int what) {
            if (k < 0 || k >= items || k >= MAX_SIGNS) {
                return NONE;
            }
            return what == 0 ? itemKinds[k] : what == 1 ? itemCodes[k] : NONE;
        }
    }
}
