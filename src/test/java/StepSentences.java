/** Terms: what a step must be, the boundary, the left program, and which step of a program is done. */
final class StepSentences {
    private static final int KERN = Trial.KERN;

    static void all() {
        fourBytes();
        jumps();
        signsOfSteps();
        ligatureSteps();
        kernSteps();
        stepsBehind();
        boundary();
        leftProgram();
        programs();
        stepDone();
        stepThatEnds();
        stepsPassedOver();
    }

    /** Characters a .. f and so many kerns; kern k is of k + 1 scaled points at a size of 65536. */
    private static MetricFile kerned(int kerns) {
        MetricFile f = MetricFile.plain('a', 6);
        while (f.kerns.size() < kerns) {
            f.kerns.add(16 * (f.kerns.size() + 1));
        }
        return f;
    }

    private static MetricFile padded(MetricFile f, int steps) {
        while (f.steps.size() < steps) {
            f.step(128, 'a', 0, 'a');
        }
        return f;
    }

    private static void fourBytes() {
        Doc.says("STEPS, bytes s, n, o, r.");
        Trial.sets(kerned(4).step(128, 'b', KERN, 3).program('a', 0), "abac", "a<4>bac");
        Trial.sets(kerned(4).step(128, 'c', KERN, 2).program('a', 0), "abac", "aba<3>c");
        Trial.sets(kerned(4).step(128, 'c', 0, 'e').program('a', 0), "abac", "ab(e)");
        Trial.sets(kerned(4).step(128, 'c', 2, 'd').program('a', 0), "abac", "aba(d)");
    }

    private static void jumps() {
        Doc.says("s above 128: a JUMP, to step 256 * o + r, which must be there.");
        for (int s : new int[] {129, 200, 254, 255}) {
            for (int n : new int[] {0, 'b', 255}) {
                MetricFile f = kerned(1).step(128, 'b', KERN, 0).step(s, n, 0, 0).step(128, 'b', KERN, 0);
                Trial.faultIs("a jump of " + s + " to the first", 0, f);
                f.steps.set(1, MetricFile.word(s, n, 0, 1));
                Trial.faultIs("a jump of " + s + " to itself", 0, f);
                f.steps.set(1, MetricFile.word(s, n, 0, 2));
                Trial.faultIs("a jump of " + s + " to the last", 0, f);
                f.steps.set(1, MetricFile.word(s, n, 0, 3));
                Trial.faultIs("a jump of " + s + " behind the last", 5, f);
                f.steps.set(1, MetricFile.word(s, n, 1, 0));
                Trial.faultIs("a jump of " + s + " to step 256 of three", 5, f);
                f.steps.set(1, MetricFile.word(s, n, KERN, 0));
                Trial.faultIs("a jump of " + s + " is no kern", 5, f);
                f.steps.set(1, MetricFile.word(s, n, 255, 255));
                Trial.faultIs("a jump of " + s + " to step 65535", 5, f);
            }
            Trial.sets(kerned(1).step(s, 'b', 0, 1).step(128, 'b', KERN, 0).step(128, 'c', 0, 'c').program('a', 0), "ab",
                "a<1>b");
        }
        Trial.faultIs("128 is no jump: no sign", 5, kerned(1).step(128, 0, 0, 0));
        Trial.sets(kerned(2).step(128, 'b', KERN, 1).step(128, 'b', KERN, 0).program('a', 0), "ab", "a<2>b");
        MetricFile far = padded(kerned(1).step(129, 0, 1, 44).program('a', 0), 300);
        Trial.faultIs("step 300 of 300", 5, far);
        Trial.faultIs("step 300 of 301", 0, far.step(128, 'b', KERN, 0));
        Trial.sets(far, "ab", "a<1>b");
    }

    private static void signsOfSteps() {
        Doc.says("Else: n is a character that is there, or the BOUNDARY;");
        for (int s : new int[] {0, 127, 128}) {
            for (int n : new int[] {0, 'a' - 1, 'e', 'g', 200, 255}) {
                MetricFile none = kerned(1).info('e', 0, 0, 0, 0).step(s, n, KERN, 0);
                Trial.faultIs("sign " + n, 5, padded(none, 129));
                none.steps.set(0, MetricFile.word(s, n, 0, 'a'));
                Trial.faultIs("sign " + n + " of a ligature", 5, none);
                MetricFile edge = kerned(1).info('e', 0, 0, 0, 0).step(255, n, 0, 0).step(s, n, KERN, 0);
                Trial.faultIs("the boundary " + n, 0, padded(edge, 130));
                edge.steps.set(1, MetricFile.word(s, 77, KERN, 0));
                Trial.faultIs("neither a character nor the boundary", 5, edge);
                edge.steps.set(1, MetricFile.word(s, 'f', KERN, 0));
                Trial.faultIs("a character beside the boundary", 0, edge);
            }
            Trial.faultIs("the first character", 0, padded(kerned(1).step(s, 'a', KERN, 0), 129));
            Trial.faultIs("the last character", 0, padded(kerned(1).step(s, 'f', KERN, 0), 129));
        }
        Trial.faultIs("a first jump of 254 makes no boundary", 5, kerned(1).step(254, 200, 0, 0).step(128, 200, KERN, 0));
        Trial.faultIs("a later one of 255 makes none", 5,
            kerned(1).step(128, 'a', 0, 'a').step(255, 200, 0, 0).step(128, 200, KERN, 0));
        Trial.faultIs("the last one of 255 makes none", 5,
            kerned(1).step(128, 200, KERN, 0).step(255, 200, 0, 0));
    }

    private static void ligatureSteps() {
        Doc.says("o below 128: r is one, o is 0, 1, 2, 3, 5, 6, 7 or 11;");
        for (int o = 0; o < 128; o++) {
            int deed = o;
            boolean good = o <= 3 || o >= 5 && o <= 7 || o == 11;
            Trial.faultIs("o " + o, good ? 0 : 5, f -> f.step(128, 'b', deed, 'c'));
        }
        for (int o : new int[] {0, 1, 2, 3, 5, 6, 7, 11}) {
            for (int r : new int[] {0, 'a' - 1, 'e', 'g', 255}) {
                Trial.faultIs("r " + r, 5, f -> f.info('e', 0, 0, 0, 0).step(128, 'b', o, r));
            }
            Trial.faultIs("r the first character", 0, f -> f.step(128, 'b', o, 'a'));
            Trial.faultIs("r the last character", 0, f -> f.step(128, 'b', o, 'f'));
            Trial.faultIs("r the boundary, no character", 5, kerned(1).step(255, 200, 0, 0).step(128, 'b', o, 200));
            Trial.faultIs("r the boundary, a character", 0, kerned(1).step(255, 'c', 0, 0).step(128, 'b', o, 'c'));
        }
    }

    private static void kernSteps() {
        Doc.says("o from 128 on: kern 256 * (o - 128) + r, which must be there.");
        Trial.faultIs("no kern at all", 5, kerned(0).step(128, 'b', KERN, 0));
        Trial.faultIs("the only kern", 0, kerned(1).step(128, 'b', KERN, 0));
        Trial.faultIs("behind the only kern", 5, kerned(1).step(128, 'b', KERN, 1));
        Trial.faultIs("kern 255 of 256", 0, kerned(256).step(128, 'b', KERN, 255));
        Trial.faultIs("kern 255 of 255", 5, kerned(255).step(128, 'b', KERN, 255));
        Trial.faultIs("kern 256 of 257", 0, kerned(257).step(128, 'b', KERN + 1, 0));
        Trial.faultIs("kern 256 of 256", 5, kerned(256).step(128, 'b', KERN + 1, 0));
        Trial.faultIs("kern 32767 of 300", 5, kerned(300).step(128, 'b', 255, 255));
        Trial.faultIs("r need be no character", 0, kerned(8).step(128, 'b', KERN, 7));
        Trial.sets(kerned(300).step(128, 'b', KERN, 255).program('a', 0), "ab", "a<256>b");
        Trial.sets(kerned(300).step(128, 'b', KERN + 1, 0).program('a', 0), "ab", "a<257>b");
        Trial.sets(kerned(300).step(128, 'b', KERN + 1, 43).program('a', 0), "ab", "a<300>b");
    }

    private static void stepsBehind() {
        Doc.says("s below 128: step s + 1 behind this one must be there.");
        for (int s : new int[] {0, 1, 2, 126, 127}) {
            Trial.faultIs(s + " and one behind it", 0, padded(kerned(1).step(s, 'b', KERN, 0), s + 2));
            Trial.faultIs(s + " and none behind it", 5, padded(kerned(1).step(s, 'b', KERN, 0), s + 1));
            Trial.faultIs(s + " and one behind it, both later", 0, padded(padded(kerned(1), 5).step(s, 'b', KERN, 0), s + 7));
            Trial.faultIs(s + " and none behind it, later", 5, padded(padded(kerned(1), 5).step(s, 'b', KERN, 0), s + 6));
        }
        Trial.faultIs("128 needs none", 0, kerned(1).step(128, 'b', KERN, 0));
        Trial.faultIs("129 needs none", 0, kerned(1).step(129, 'b', 0, 0));
        Trial.faultIs("255 needs none", 0, kerned(1).step(255, 'b', 0, 0));
    }

    private static void boundary() {
        Doc.says("If the first step has s = 255, its n is the BOUNDARY (any byte; also if it is no character);");
        for (int n = 0; n < 256; n++) {
            MetricFile f = kerned(1).step(255, n, 0, 0);
            FontDesk desk = Trial.with(f, 65536);
            Due.is("the boundary " + n, n, () -> desk.count(5));
            MetricFile kern = f.step(128, n, KERN, 0).program('a', 1);
            Trial.sets(kern, "ba", "ba<1>");
        }
        for (int s : new int[] {128, 129, 254}) {
            MetricFile f = kerned(1).step(s, 'a', 0, s == 128 ? 'a' : 0).step(255, 'b', 0, 0).step(128, 'a', 0, 'a');
            FontDesk desk = Trial.with(f, 65536);
            Due.is("first with " + s + ", second with 255", -1, () -> desk.count(5));
        }
        FontDesk none = Trial.with(kerned(1), 65536);
        Due.is("no steps", -1, () -> none.count(5));
        Trial.faultIs("the first is a jump, too", 5, kerned(1).step(255, 200, 0, 1));
    }

    private static void leftProgram() {
        Doc.says("if the last one has s = 255, the LEFT PROGRAM begins where it jumps to (it has no steps if that is a jump "
            + "again).");
        for (int n : new int[] {0, 'a', 255}) {
            MetricFile f = kerned(2).step(0, 'a', KERN, 0).step(128, 'b', KERN, 1).step(255, n, 0, 0);
            Trial.sets(f, "a", "<1>a");
            Trial.sets(f, "b", "<2>b");
            Trial.sets(f, "cab", "cab");
            f.steps.set(2, MetricFile.word(255, n, 0, 1));
            Trial.sets(f, "a", "a");
            Trial.sets(f, "b", "<2>b");
            f.steps.set(2, MetricFile.word(255, n, 0, 2));
            Trial.sets(f, "a", "a");
            for (int s : new int[] {129, 254}) {
                f.steps.set(2, MetricFile.word(s, n, 0, 0));
                Trial.sets(f, "a", "a");
            }
        }
        Trial.sets(kerned(1).step(128, 'a', KERN, 0).step(255, 0, 0, 0).step(128, 'b', KERN, 0), "a", "a");
        for (int s : new int[] {129, 254, 255}) {
            MetricFile again = kerned(1).step(128, 'a', KERN, 0).step(s, 'a', 0, 0).step(255, 0, 0, 1);
            Trial.sets(again, "a", "a");
            Trial.faultIs("a left program that is a jump again", 0, again);
        }
        Trial.sets(kerned(1).step(255, 'a', 0, 0), "a", "a");
        Trial.sets(kerned(1).step(255, 'b', 0, 0).step(128, 'a', KERN, 0).step(255, 0, 0, 1), "a", "<1>a");
        MetricFile far = padded(kerned(1).step(128, 'a', KERN, 0), 300);
        Trial.sets(far.step(128, 'a', 0, 'c').step(255, 0, 1, 44), "a", "(c)");
        Trial.sets(kerned(0), "a", "a");
    }

    private static void programs() {
        Doc.says("The PROGRAM of a character begins at its step; if that is a jump, where it leads to (no steps if that is a "
            + "jump again).");
        MetricFile f = kerned(3)
            .step(0, 'b', KERN, 0)
            .step(128, 'c', KERN, 1)
            .step(129, 'b', 0, 1)       // 2: a jump to 1
            .step(254, 'b', 0, 2)       // 3: a jump to a jump
            .step(200, 'b', 0, 4)       // 4: a jump to itself
            .step(128, 'b', KERN, 2);
        Trial.sets(f.program('a', 0), "abac", "a<1>ba<2>c");
        Trial.sets(f.program('a', 1), "abac", "aba<2>c");
        Trial.sets(f.program('a', 2), "abac", "aba<2>c");
        Trial.sets(f.program('a', 3), "abac", "abac");
        Trial.sets(f.program('a', 4), "abac", "abac");
        Trial.sets(f.program('a', 5), "abac", "a<3>bac");
        Trial.sets(f.program('a', 1).program('b', 2), "bcac", "b<2>ca<2>c");
        Trial.sets(kerned(1).step(255, 'b', 0, 1).step(128, 'c', KERN, 0).program('a', 0), "ac", "a<1>c");
        Trial.sets(kerned(1).step(128, 'c', KERN, 0).step(255, 'b', 0, 0).program('a', 1), "ac", "a<1>c");
        for (int s : new int[] {129, 255}) {
            MetricFile again = kerned(1).step(s, 'b', 0, 1).step(s, 'b', 0, 2).step(128, 'c', KERN, 0).program('a', 0);
            Trial.sets(again, "ac", "ac");
        }
    }

    private static void stepDone() {
        Doc.says("From there steps are looked at, one after the other: one with s at most 128 whose n is the sign sought is "
            + "DONE, and this ends it;");
        for (int s : new int[] {0, 1, 127, 128}) {
            MetricFile f = padded(kerned(3).step(s, 'b', KERN, 0).step(128, 'b', KERN, 1).step(128, 'b', KERN, 2), 130);
            Trial.sets(f.program('a', 0), "ab", "a<1>b");
        }
        MetricFile order = kerned(3).step(0, 'c', KERN, 0).step(0, 'b', KERN, 1).step(0, 'b', KERN, 2)
            .step(128, 'd', KERN, 0).program('a', 0);
        Trial.sets(order, "ab", "a<2>b");
        Trial.sets(order, "ac", "a<1>c");
        Trial.sets(order, "ad", "a<1>d");
        Trial.sets(order, "ae", "ae");
        MetricFile hidden = kerned(1).step(0, 'b', KERN, 0).step(128, 'b', 0, 'c').program('a', 0);
        Trial.sets(hidden, "ab", "a<1>b");
        for (int s : new int[] {129, 254, 255}) {
            MetricFile jump = kerned(1).step(0, 'c', KERN, 0).step(s, 'b', 0, 2).step(128, 'd', 0, 'd').program('a', 0);
            Trial.sets(jump, "ab", "ab");
        }
    }

    private static void stepThatEnds() {
        Doc.says("one with s of 128 and more ends it, too;");
        MetricFile f = kerned(2).step(128, 'c', KERN, 0).step(128, 'b', KERN, 1).program('a', 0);
        Trial.sets(f, "ab", "ab");
        Trial.sets(f, "ac", "a<1>c");
        for (int s : new int[] {129, 254, 255}) {
            MetricFile jump = kerned(2).step(0, 'c', KERN, 0).step(s, 'd', 0, 2).step(0, 'b', KERN, 1)
                .step(128, 'd', KERN, 1).program('a', 0);
            Trial.sets(jump, "ab", "ab");
            Trial.sets(jump, "ad", "ad");
            Trial.sets(jump, "ac", "a<1>c");
        }
        MetricFile last = kerned(2).step(127, 'c', KERN, 0);
        Trial.sets(padded(last, 128).step(128, 'b', KERN, 1).program('a', 0), "ab", "a<2>b");
    }

    private static void stepsPassedOver() {
        Doc.says("else s steps are passed over, and so on.");
        for (int s : new int[] {0, 1, 2, 126, 127}) {
            MetricFile f = kerned(3).step(s, 'c', KERN, 0);
            while (f.steps.size() < s + 1) {
                f.step(128, 'b', KERN, 1);
            }
            Trial.sets(f.step(128, 'b', KERN, 2).step(128, 'b', KERN, 1).program('a', 0), "ab", "a<3>b");
        }
        MetricFile twice = kerned(3).step(1, 'c', KERN, 0).step(128, 'b', KERN, 1).step(2, 'd', KERN, 0)
            .step(0, 'b', KERN, 1).step(0, 'e', KERN, 1).step(128, 'b', KERN, 2).program('a', 0);
        Trial.sets(twice, "abacadae", "a<3>ba<1>ca<1>dae");
        MetricFile onJump = kerned(2).step(1, 'c', KERN, 0).step(128, 'b', KERN, 1).step(129, 'b', 0, 1).program('a', 0);
        Trial.sets(onJump, "ab", "ab");
    }
}
