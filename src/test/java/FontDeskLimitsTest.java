import java.util.List;
import java.util.Random;
import java.util.function.IntPredicate;

/** Fonts whose words reach a limit of set(): the longest word that can be set, and those about it, by PlainFont too. */
public final class FontDeskLimitsTest {
    private static final int FONTS = 120;
    private static final int MOST = 200;

    private static int atALimit = 0;

    public static void main(String[] args) {
        Random random = new Random(20261116);
        for (int k = 0; k < FONTS; k++) {
            one("font " + k, k % 2 == 0 ? slow(random) : growing(random));
        }
        System.out.println(atALimit + " of " + FONTS + " fonts reach a limit");
        Due.same("fonts that reach a limit are enough:", 1, atALimit > FONTS / 2 ? 1 : 0);
        Due.end("FontDeskLimitsTest");
    }

    private static void one(String name, MetricFile file) {
        PlainFont plain = new PlainFont(file.bytes());
        plain.fault(3000);
        plain.size = 65536;
        FontDesk desk = Trial.with(file, 65536);
        // The longer one takes more.
        int longest = last(MOST, length -> plain.set(new byte[length]) != null);
        atALimit += longest < MOST ? 1 : 0;
        for (int length = Math.max(0, longest - 1); length <= Math.min(MOST, longest + 2); length++) {
            word(name + ", " + length + " signs", desk, plain, new byte[length]);
        }
        // One sign more: the lower it is, the more it takes.
        int highest = file.infos.size() - 1;
        int lowest = highest - last(highest, k -> plain.set(with(longest, highest - k)) != null);
        for (int c = Math.max(0, lowest - 2); c <= Math.min(highest, lowest + 1) && longest < MOST; c++) {
            word(name + ", " + longest + " signs and a " + c, desk, plain, with(longest, c));
        }
    }

    private static byte[] with(int length, int c) {
        byte[] text = new byte[length + 1];
        text[length] = (byte) c;
        return text;
    }

    /** The last of 0 .. most that is good; what is behind one that is not, is not. */
    private static int last(int most, IntPredicate good) {
        int can = 0;
        int cannot = most + 1;
        while (cannot - can > 1) {
            int middle = (can + cannot) / 2;
            if (good.test(middle)) {
                can = middle;
            } else {
                cannot = middle;
            }
        }
        return can;
    }

    private static void word(String name, FontDesk desk, PlainFont plain, byte[] text) {
        List<PlainFont.Sign> want = plain.set(text);
        MetricFile.draft(desk, text);
        Due.is(name + ": set", want == null ? Due.STATE : want.size(), () -> desk.set(0));
        long width = 0;
        for (int k = 0; want != null && k < want.size(); k++) {
            Due.same(name + ": kind", want.get(k).kind(), desk.item(k, 0));
            Due.same(name + ": code", want.get(k).code(), desk.item(k, 1));
            width += want.get(k).kind() == 2 ? want.get(k).code() : plain.metric(want.get(k).code(), 0);
        }
        Due.same(name + ": behind the last", -1, desk.item(want == null ? 0 : want.size(), 0));
        Due.same(name + ": width", width, desk.width());
    }

    /** The second sign becomes the next one, and again, until it is the last: many stands, no sign more. */
    private static MetricFile slow(Random random) {
        int characters = 48 + random.nextInt(30);
        MetricFile f = bordered(random, characters);
        int begin = f.steps.size();
        for (int y = 0; y < characters - 1; y++) {
            f.step(0, y, 2, y + 1);
        }
        f.step(128, characters - 1, random.nextBoolean() ? 128 : 6, 0);
        for (int x = 0; x < characters; x++) {
            f.program(x, begin);
        }
        return led(random, f, begin);
    }

    /** Between two signs the next ones come, one behind the other, until it is the last: many signs. */
    private static MetricFile growing(Random random) {
        int characters = 4 + random.nextInt(20);
        MetricFile f = bordered(random, characters);
        int begin = f.steps.size();
        for (int x = 0; x < characters - 1; x++) {
            f.program(x, f.steps.size());
            int deed = new int[] {6, 7, 11, 128}[random.nextInt(4)];
            if (random.nextInt(4) == 0) {
                f.step(0, characters - 1, deed, deed == 128 ? 0 : characters - 1);
            }
            f.step(128, 0, random.nextInt(12) == 0 ? 11 : 7, x + 1);
        }
        if (random.nextBoolean()) {
            f.program(characters - 1, f.steps.size()).step(128, 0, 128, 0);
        }
        return led(random, f, begin);
    }

    private static MetricFile bordered(Random random, int characters) {
        MetricFile f = MetricFile.plain(0, characters);
        f.kerns.add(-777);
        if (random.nextBoolean()) {
            f.step(255, random.nextBoolean() ? characters - 1 : 0, 0, 0);
        }
        return f;
    }

    /** Without a left program, with the one that begins there, or with one that takes the left edge away. */
    private static MetricFile led(Random random, MetricFile f, int begin) {
        switch (random.nextInt(3)) {
            case 0:
                return f;
            case 1:
                return f.step(255, 0, 0, begin);
            default:
                return f.step(128, 0, 0, 0).step(255, 0, 0, f.steps.size() - 1);
        }
    }
}
