/** Counts and prints the answers that are not as due. */
final class Due {
    static final long INDEX = 1L << 40;
    static final long ARGUMENT = 1L << 41;
    static final long STATE = 1L << 42;

    private static int wrong = 0;
    private static int asked = 0;
    private static String sentence = "";
    private static int askedBefore = -1;
    private static boolean told = false;

    interface Call {
        long answer();
    }

    /** What is asked from here on is asked for this sentence's sake. */
    static void begin(String next) {
        endSentence();
        sentence = next;
        told = false;
        askedBefore = asked;
    }

    private static void endSentence() {
        if (asked == askedBefore) {
            fail("nothing was asked");
        }
    }

    /** The call's answer, or one of INDEX, ARGUMENT, STATE for the exception it throws. */
    static long of(Call call) {
        try {
            return call.answer();
        } catch (RuntimeException e) {
            return of(e);
        }
    }

    // By the very class: what the machine itself throws is always wrong.
    private static long of(RuntimeException e) {
        if (e.getClass() == IndexOutOfBoundsException.class) {
            return INDEX;
        }
        if (e.getClass() == IllegalArgumentException.class) {
            return ARGUMENT;
        }
        if (e.getClass() == IllegalStateException.class) {
            return STATE;
        }
        throw e;
    }

    static void is(String what, long want, Call call) {
        same(what, want, of(call));
    }

    static void same(String what, long want, long got) {
        asked++;
        if (got != want) {
            fail(what + " answered " + name(got) + ", due is " + name(want));
        }
    }

    static void fail(String what) {
        wrong++;
        if (!told && !sentence.isEmpty()) {
            System.out.println("* " + sentence);
        }
        told = true;
        System.out.println(what);
    }

    private static String name(long answer) {
        return answer == INDEX ? "throws.IndexOutOfBoundsException"
            : answer == ARGUMENT ? "throws.IllegalArgumentException"
            : answer == STATE ? "throws.IllegalStateException" : Long.toString(answer);
    }

    static void end(String test) {
        endSentence();
        System.out.println(test + ": " + asked + " answers, " + wrong + " not as due");
        if (wrong != 0 || asked == 0) {
            System.exit(1);
        }
    }
}
