import java.util.Random;

/**
 * Any calls with any arguments, in any order: a call throws what the document lets it throw and nothing else, and the
 * same calls on two objects give the same answers.
 */
public final class FontDeskAnyCallTest {
    private static final int RUNS = 3000;
    private static final int CALLS = 512;
    private static final int[] EDGES = {Integer.MIN_VALUE, Integer.MIN_VALUE + 1, -65536, -257, -2, -1, 0, 1, 2, 3, 5, 6, 8,
        9, 31, 32, 33, 97, 127, 128, 255, 256, 257, 1000, 1001, 65535, 65536, 134217727, 134217728, Integer.MAX_VALUE - 1,
        Integer.MAX_VALUE};
    private static final long NOTHING = 0;
    private static final long[] MAY_THROW = {NOTHING, NOTHING, Due.ARGUMENT | Due.STATE, NOTHING, Due.INDEX, Due.INDEX,
        Due.INDEX | Due.ARGUMENT | Due.STATE, NOTHING, NOTHING, NOTHING};
    private static final String[] NAMES = {"put", "a file", "load", "fault", "metric", "parameter", "set", "item", "width",
        "count"};

    private static final long[] threw = new long[NAMES.length];
    private static final long[] answered = new long[NAMES.length];

    public static void main(String[] args) {
        Random random = new Random(16112026);
        for (int run = 0; run < RUNS; run++) {
            run(random, run);
        }
        for (int call = 0; call < NAMES.length; call++) {
            Due.same(NAMES[call] + " answered at times", 1, answered[call] > 100 ? 1 : 0);
            Due.same(NAMES[call] + " threw all that it may", MAY_THROW[call], threw[call]);
        }
        Due.end("FontDeskAnyCallTest");
    }

    private static void run(Random random, int run) {
        FontDesk desk = new FontDesk();
        FontDesk twin = new FontDesk();
        for (int k = 0; k < CALLS; k++) {
            int call = random.nextInt(NAMES.length);
            int a = any(random);
            int b = any(random);
            int c = any(random);
            long v = random.nextInt(3) == 0 ? 0 : random.nextLong();
            byte[] file = call == 1 ? file(random) : null;
            long answer = Due.of(() -> answer(desk, call, a, b, c, v, file));
            String name = "run " + run + ", call " + k + ", " + NAMES[call] + " of " + a + ", " + b + ", " + c;
            Due.same(name + " on a twin", answer, Due.of(() -> answer(twin, call, a, b, c, v, file)));
            if (answer == Due.INDEX || answer == Due.ARGUMENT || answer == Due.STATE) {
                threw[call] |= answer;
                Due.same(name + " may throw", answer, answer & MAY_THROW[call]);
            } else {
                answered[call]++;
            }
        }
    }

    private static int any(Random random) {
        switch (random.nextInt(4)) {
            case 0:
                return EDGES[random.nextInt(EDGES.length)];
            case 1:
                return random.nextInt();
            case 2:
                return random.nextInt(4);
            default:
                return random.nextInt(300) - 20;
        }
    }

    private static byte[] file(Random random) {
        if (random.nextInt(6) == 0) {
            // Two of code 0 grow beyond all limits in it.
            return MachineSentences.doubling(12, 5).bytes();
        }
        byte[] bytes = FontDeskAgainstPlainTest.made(random).bytes();
        return random.nextInt(4) == 0 ? FontDeskAgainstPlainTest.spoiled(random, bytes) : bytes;
    }

    private static long answer(FontDesk desk, int call, int a, int b, int c, long v, byte[] file) {
        switch (call) {
            case 0:
                return desk.put(v, a) ? 1 : 0;
            case 1:
                MetricFile.draft(desk, file);
                return desk.count(1);
            case 2:
                return desk.load(a);
            case 3:
                return desk.fault();
            case 4:
                return desk.metric(a, b, c);
            case 5:
                return desk.parameter(a, b);
            case 6:
                return desk.set(a);
            case 7:
                return desk.item(a, b);
            case 8:
                return desk.width();
            default:
                return desk.count(a);
        }
    }
}
