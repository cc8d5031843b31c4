import java.util.List;
import java.util.Random;

/** Many made-up files and words, good and spoiled, answered by FontDesk and by PlainFont. */
public final class FontDeskAgainstPlainTest {
    private static final int FILES = 36000;
    private static final int[] DEEDS = {0, 1, 2, 3, 5, 6, 7, 11};

    private static final int[] faults = new int[8];
    private static int words = 0;
    private static int tooLong = 0;
    // Kept from file to file, as what an earlier one left in it must not be seen in a later one's answers.
    private static FontDesk desk = new FontDesk();

    public static void main(String[] args) {
        Random random = new Random(20261115);
        for (int k = 0; k < FILES; k++) {
            one(random, k);
        }
        for (int f = 0; f < faults.length; f++) {
            Due.same("files with fault " + f + " (" + faults[f] + ") are enough:", 1, faults[f] > 50 ? 1 : 0);
        }
        Due.same("words (" + words + ") are enough:", 1, words > 10000 ? 1 : 0);
        Due.same("words beyond a limit (" + tooLong + ") are enough:", 1, tooLong > 20 ? 1 : 0);
        System.out.println("files by fault " + java.util.Arrays.toString(faults) + ", " + words + " words, " + tooLong
            + " of them beyond a limit");
        Due.end("FontDeskAgainstPlainTest");
    }

    private static void one(Random random, int k) {
        byte[] bytes = (random.nextInt(12) == 0 ? growing(random) : made(random)).bytes();
        if (random.nextInt(3) == 0) {
            bytes = spoiled(random, bytes);
        }
        String name = "file " + k;
        PlainFont plain = new PlainFont(bytes);
        if (desk.count(0) == 32) {
            desk = new FontDesk();
        }
        int font = desk.count(0);
        MetricFile.draft(desk, bytes);
        int z = random.nextInt(4) == 0 ? 0 : random.nextInt(1 + (1 << random.nextInt(28)));
        long loaded = Due.of(() -> desk.load(z));
        int fault = plain.fault(3000);
        if (fault == 7 && loaded == font) {
            // It may only have been slow to end.
            fault = plain.fault(3000000);
        }
        faults[fault]++;
        Due.same(name + ": load", fault == 0 ? font : Due.ARGUMENT, loaded);
        Due.same(name + ": fault", fault, desk.fault());
        if (fault != 0 || loaded != font) {
            return;
        }
        plain.size = z == 0 ? plain.designSize() : z;
        Due.same(name + ": size", plain.size, desk.count(4));
        Due.same(name + ": boundary", plain.boundary(), desk.count(5));
        metrics(name, font, plain);
        for (int w = 0; w < 6; w++) {
            word(random, name, font, plain);
        }
    }

    private static void metrics(String name, int font, PlainFont plain) {
        for (int c = -1; c <= 256; c++) {
            int code = c;
            for (int what = 0; what < 6; what++) {
                int w = what;
                Due.is(name + ": metric", plain.there(c) ? plain.metric(c, w) : Due.INDEX,
                    () -> desk.metric(font, code, w));
            }
        }
        for (int p = 1; p < 6; p++) {
            Due.same(name + ": parameter", plain.parameter(p), desk.parameter(font, p));
        }
    }

    private static void word(Random random, String name, int font, PlainFont plain) {
        int length = random.nextInt(8) == 0 ? random.nextInt(201) : random.nextInt(12);
        byte[] text = new byte[length];
        int[] codes = java.util.stream.IntStream.range(0, 256).filter(plain::there).toArray();
        for (int i = 0; i < length && codes.length > 0; i++) {
            text[i] = (byte) codes[random.nextInt(codes.length)];
        }
        if (codes.length == 0) {
            text = new byte[0];
        }
        MetricFile.draft(desk, text);
        List<PlainFont.Sign> want = plain.set(text);
        words++;
        if (want == null) {
            tooLong++;
        }
        Due.is(name + ": set", want == null ? Due.STATE : want.size(), () -> desk.set(font));
        long width = 0;
        for (int i = 0; want != null && i < want.size(); i++) {
            PlainFont.Sign sign = want.get(i);
            Due.same(name + ": kind", sign.kind(), desk.item(i, 0));
            Due.same(name + ": code", sign.code(), desk.item(i, 1));
            width += sign.kind() == 2 ? sign.code() : plain.metric(sign.code(), 0);
        }
        Due.same(name + ": behind the last", -1, desk.item(want == null ? 0 : want.size(), 0));
        Due.same(name + ": width", width, desk.width());
    }

    static MetricFile made(Random random) {
        int characters = 1 + random.nextInt(6);
        MetricFile f = MetricFile.plain(random.nextInt(3) == 0 ? 0 : random.nextInt(257 - characters), characters);
        f.head.set(1, MetricFile.ONE + random.nextInt(1 << 28));
        for (List<Integer> row : List.of(f.widths, f.heights, f.depths, f.italics, f.kerns, f.parameters)) {
            for (int k = random.nextInt(3); k > 0; k--) {
                row.add(random.nextInt(1 << 25) - (1 << 24));
            }
        }
        f.kerns.add(random.nextInt(2000) - 1000);
        for (int k = random.nextInt(3); k > 0; k--) {
            f.pieces.add(MetricFile.word(sign(random, f), 0, sign(random, f), sign(random, f)));
        }
        steps(random, f);
        for (int c = f.bc; c < f.bc + characters; c++) {
            int tag = random.nextInt(6);
            tag = tag > 3 ? 1 : tag;
            int rest = tag == 1 ? random.nextInt(1 + f.steps.size()) : tag == 2 ? sign(random, f) : random.nextInt(2);
            f.info(c, 1 + random.nextInt(f.widths.size() - 1), random.nextInt(f.heights.size()) * 16
                + random.nextInt(f.depths.size()), random.nextInt(f.italics.size()) * 4 + tag, rest);
        }
        if (random.nextInt(4) == 0 && characters > 1) {
            f.infos.set(random.nextInt(characters), random.nextInt(1 << 24));
        }
        return f;
    }

    /** What comes stands above both that it came for, so all ends, but words may grow beyond the limits. */
    private static MetricFile growing(Random random) {
        int characters = 4 + random.nextInt(8);
        MetricFile f = MetricFile.plain(random.nextInt(200), characters);
        f.kerns.add(77);
        int oftenKerned = 2 + random.nextInt(8);
        for (int x = 0; x < characters; x++) {
            f.program(f.bc + x, f.steps.size());
            for (int y = 0; y < characters; y++) {
                int above = Math.max(x, y) + 1;
                int s = y == characters - 1 ? 128 : 0;
                if (above >= characters || random.nextInt(oftenKerned) == 0) {
                    f.step(s, f.bc + y, 128, 0);
                } else {
                    int deed = random.nextInt(3) > 0 ? DEEDS[3] : DEEDS[1 + random.nextInt(7)];
                    f.step(s, f.bc + y, deed, f.bc + above + random.nextInt(Math.min(2, characters - above)));
                }
            }
        }
        return f;
    }

    private static int sign(Random random, MetricFile f) {
        return f.bc + random.nextInt(f.infos.size());
    }

    private static void steps(Random random, MetricFile f) {
        boolean bordered = random.nextInt(2) == 0;
        int boundary = random.nextInt(2) == 0 ? sign(random, f) : random.nextInt(256);
        int steps = random.nextInt(14);
        boolean wild = random.nextInt(4) == 0;
        if (bordered) {
            f.step(255, boundary, 0, random.nextInt(1 + steps));
        }
        for (int k = 0; k < steps; k++) {
            int left = steps - 1 - k;
            int s = left == 0 || random.nextInt(4) == 0 ? 128 : random.nextInt(Math.min(left, 3));
            int n = bordered && random.nextInt(4) == 0 ? boundary : sign(random, f);
            // Mostly such as come to an end, so that words are set, too.
            int deed = wild || random.nextInt(3) == 0 ? DEEDS[random.nextInt(8)] : DEEDS[4 + random.nextInt(4)];
            if (random.nextInt(8) == 0) {
                f.step(129 + random.nextInt(127), n, 0, random.nextInt(steps));
            } else if (random.nextInt(4) == 0) {
                f.step(s, n, 128, random.nextInt(f.kerns.size()));
            } else {
                f.step(s, n, deed, sign(random, f));
            }
        }
        if (random.nextInt(2) == 0) {
            f.step(255, random.nextInt(256), 0, random.nextInt(1 + steps));
        }
    }

    static byte[] spoiled(Random random, byte[] bytes) {
        byte[] b = bytes.clone();
        int at = random.nextInt(3) == 0 ? random.nextInt(32) : 28 + random.nextInt(b.length - 28);
        b[at] = (byte) (random.nextBoolean() ? random.nextInt(256) : b[at] + 1 - 2 * random.nextInt(2));
        return b;
    }
}
