/** Promises 3, 5, 8 and 11 by the scalar instructions 0 to 7. */
public final class ScalarInstructionsTest {
    private static final int RUNS = LaneMachine.RUNS;
    private static final int HALTED = LaneMachine.HALTED;
    private static final int ILLEGAL = LaneMachine.ILLEGAL;
    private static final Check CHECK = new Check("ScalarInstructionsTest");

    public static void main(String[] args) {
        setsAndSums();
        setTakesAnyInt();
        sumsWrapBothWays();
        zeroStaysZero();
        unlikeGoesOnElsewhere();
        unlikeLooksAtAllBits();
        unlikeToItself();
        unlikeToTheLast();
        unlikeToNowhere();
        haltStaysNext();
        limitIsCut();
        configureSetsWidthAndGroup();
        configureCutsTheLength();
        firstTakesTheWidth();
        masksMeanNothingToScalars();
        CHECK.end();
    }

    private static void setsAndSums() {
        Rig rig = new Rig(1).set(1, Integer.MAX_VALUE).set(2, -7);
        rig.m.put(Op.ADD, 3, 1, 1, 99, false);
        rig.m.put(Op.ADD, 4, 1, 2, 0, false);
        rig.m.put(Op.ADDN, 5, 1, 7, 1, false);
        rig.m.put(Op.ADDN, 2, 2, 0, -3, false);
        rig.op(Op.HALT).run(0);
        CHECK.is("ADD wraps", rig.m.scalar(3), -2);
        CHECK.is("ADD", rig.m.scalar(4), Integer.MAX_VALUE - 7);
        CHECK.is("ADDN wraps", rig.m.scalar(5), Integer.MIN_VALUE);
        CHECK.is("ADDN onto itself", rig.m.scalar(2), -10);
        CHECK.is("SET", rig.m.scalar(1), Integer.MAX_VALUE);
    }

    private static void setTakesAnyInt() {
        for (int n : new int[] {Integer.MIN_VALUE, -1, 0, 1, Integer.MAX_VALUE}) {
            for (int d = 0; d < 8; d++) {
                Rig rig = new Rig(1).set(d, n).op(Op.HALT).run(0);
                for (int i = 0; i < 8; i++) {
                    CHECK.is("x" + i + " after SET x" + d + " = " + n, rig.m.scalar(i), i == d && d != 0 ? n : 0);
                }
            }
        }
    }

    private static void sumsWrapBothWays() {
        Rig rig = new Rig(1).set(1, Integer.MIN_VALUE).set(2, -1).set(3, Integer.MAX_VALUE).set(4, 1);
        rig.m.put(Op.ADD, 5, 1, 2, 0, false);
        rig.m.put(Op.ADD, 6, 3, 4, 0, false);
        rig.m.put(Op.ADD, 7, 1, 1, 0, false);
        rig.m.put(Op.ADDN, 1, 1, 0, -1, false);
        rig.m.put(Op.ADDN, 2, 2, 0, Integer.MIN_VALUE, false);
        rig.m.put(Op.ADDN, 3, 3, 0, Integer.MAX_VALUE, false);
        rig.op(Op.HALT).run(0);
        CHECK.is("the least + -1", rig.m.scalar(5), Integer.MAX_VALUE);
        CHECK.is("the most + 1", rig.m.scalar(6), Integer.MIN_VALUE);
        CHECK.is("the least + the least", rig.m.scalar(7), 0);
        CHECK.is("ADDN of the least by -1", rig.m.scalar(1), Integer.MAX_VALUE);
        CHECK.is("ADDN of -1 by the least", rig.m.scalar(2), Integer.MAX_VALUE);
        CHECK.is("ADDN of the most by the most", rig.m.scalar(3), -2);
    }

    private static void zeroStaysZero() {
        Rig rig = Rig.withFile(8, 77).set(0, 5).set(1, 6);
        rig.m.put(Op.ADD, 0, 1, 1, 0, false);
        rig.m.put(Op.ADDN, 0, 1, 0, 1, false);
        rig.configure(0, 1, Rig.W1).vector(Op.FIRST, 0, 0, 0);
        rig.m.put(Op.ADDN, 2, 0, 0, 3, false);
        int from = rig.here() - 7;
        rig.op(Op.HALT).run(from);
        CHECK.is("x0", rig.m.scalar(0), 0);
        CHECK.is("x0 + 3", rig.m.scalar(2), 3);
        CHECK.is("vl by CONFIGURE with d 0", rig.m.about(4), 6);
    }

    private static void unlikeGoesOnElsewhere() {
        Rig rig = new Rig(1).set(1, 4);
        rig.m.put(Op.ADDN, 2, 2, 0, 10, false);
        rig.m.put(Op.ADDN, 1, 1, 0, -1, false);
        rig.m.put(Op.UNLIKE, 0, 1, 0, 1, false);
        rig.op(Op.HALT).run(0);
        CHECK.is("four times round", rig.m.scalar(2), 40);
        CHECK.is("halted behind the loop", rig.m.about(1), 4);
        Rig equal = new Rig(1).set(1, 9).set(2, 9);
        equal.m.put(Op.UNLIKE, 0, 1, 2, 0, false);
        equal.m.go(0);
        equal.m.cycles(3);
        CHECK.is("like ones go on behind", equal.m.about(1), 3);
        Rig unlike = new Rig(1).set(1, 9).set(2, 8);
        unlike.m.put(Op.UNLIKE, 0, 1, 2, 0, false);
        unlike.m.go(0);
        unlike.m.cycles(3);
        CHECK.is("unlike ones go on at n", unlike.m.about(1), 0);
        unlike.m.cycles(3);
        CHECK.is("round again", unlike.m.about(1), 0);
    }

    /** Where an UNLIKE that is instruction 2 goes on. */
    private static int nextAfterUnlike(int xa, int xb, int n) {
        Rig rig = new Rig(1).set(1, xa).set(2, xb);
        rig.m.put(Op.UNLIKE, 0, 1, 2, n, false);
        rig.m.go(0);
        rig.m.cycles(3);
        return rig.m.about(1);
    }

    private static void unlikeLooksAtAllBits() {
        for (int bit = 0; bit < 32; bit++) {
            CHECK.is("0 and bit " + bit, nextAfterUnlike(0, 1 << bit, 7), 7);
            CHECK.is("bit " + bit + " and itself", nextAfterUnlike(1 << bit, 1 << bit, 7), 3);
        }
        CHECK.is("the least and the most", nextAfterUnlike(Integer.MIN_VALUE, Integer.MAX_VALUE, 7), 7);
        CHECK.is("1 and -1", nextAfterUnlike(1, -1, 7), 7);
        Rig same = new Rig(1).set(1, 5);
        same.m.put(Op.UNLIKE, 0, 1, 1, 0, false);
        same.m.go(0);
        same.m.cycles(2);
        CHECK.is("a scalar and itself", same.m.about(1), 2);
    }

    private static void unlikeToItself() {
        Rig rig = new Rig(1).set(1, 1);
        rig.m.put(Op.UNLIKE, 0, 1, 0, 1, false);
        rig.m.go(0);
        rig.m.cycles(200);
        CHECK.is("it runs for ever", rig.m.about(0) * 10 + rig.m.about(1), RUNS * 10 + 1);
    }

    private static void unlikeToTheLast() {
        Rig rig = new Rig(1).set(1, 1);
        rig.m.put(Op.UNLIKE, 0, 1, 0, 39, false);
        while (rig.here() < 39) {
            rig.set(2, 2);
        }
        rig.op(Op.HALT).run(0);
        CHECK.is("HALT, the last of 40", rig.m.about(0) * 100 + rig.m.about(1), HALTED * 100 + 39);
        CHECK.is("nothing between was done", rig.m.scalar(2), 0);
    }

    private static void unlikeToNowhere() {
        for (int n : new int[] {-1, -7, 2, 40, Integer.MIN_VALUE, Integer.MAX_VALUE}) {
            Rig rig = new Rig(1).set(1, 1);
            rig.m.put(Op.UNLIKE, 0, 1, 0, n, false);
            rig.m.go(0);
            rig.m.cycles(2);
            CHECK.is("state on the way to " + n, rig.m.about(0), RUNS);
            CHECK.is("next on the way to " + n, rig.m.about(1), n);
            rig.m.cycles(1);
            CHECK.is("state at " + n, rig.m.about(0), ILLEGAL);
            CHECK.is("next at " + n, rig.m.about(1), n);
            CHECK.is("go(0) after " + n, rig.m.go(0), 0);
        }
    }

    private static void haltStaysNext() {
        Rig rig = new Rig(1).op(Op.HALT).set(1, 3);
        rig.m.go(0);
        rig.m.cycles(1);
        CHECK.is("halted in the first cycle", rig.m.about(0), HALTED);
        rig.m.cycles(5);
        CHECK.is("still halted", rig.m.about(0) * 10 + rig.m.about(1), 10);
        CHECK.is("nothing behind HALT is done", rig.m.scalar(1), 0);
    }

    private static void limitIsCut() {
        int[] wanted = {Integer.MIN_VALUE, -1, 0, 1, 77, 127, 128, 129, Integer.MAX_VALUE};
        int[] due = {0, 0, 0, 1, 77, 127, 128, 128, 128};
        for (int i = 0; i < wanted.length; i++) {
            Rig rig = new Rig(1).set(3, wanted[i]).vector(Op.LIMIT, 1, 3, 2).op(Op.HALT).run(0);
            CHECK.is("the bound for " + wanted[i], rig.m.about(6), due[i]);
        }
    }

    private static void configureSetsWidthAndGroup() {
        int[] settings = {0, 1, 2, 4, 5, 6, 8, 9, 10};
        int[] widths = {1, 2, 4, 1, 2, 4, 1, 2, 4};
        int[] groups = {1, 1, 1, 2, 2, 2, 4, 4, 4};
        int[] most = {8, 4, 2, 16, 8, 4, 32, 16, 8};
        for (int i = 0; i < settings.length; i++) {
            Rig rig = new Rig(1).set(1, 1000).configure(2, 1, settings[i]).op(Op.HALT).run(0);
            CHECK.is("width of " + settings[i], rig.m.about(2), widths[i]);
            CHECK.is("group of " + settings[i], rig.m.about(3), groups[i]);
            CHECK.is("vl of " + settings[i], rig.m.about(4), most[i]);
            CHECK.is("x2 of " + settings[i], rig.m.scalar(2), most[i]);
        }
    }

    private static void configureCutsTheLength() {
        int[] wanted = {Integer.MIN_VALUE, -1, 0, 1, 3, 4, 5, Integer.MAX_VALUE};
        int[] due = {0, 0, 0, 1, 3, 4, 4, 4};
        for (int i = 0; i < wanted.length; i++) {
            Rig rig = new Rig(1).set(1, wanted[i]).configure(1, 1, Rig.W2 + Rig.G1).op(Op.HALT).run(0);
            CHECK.is("vl for " + wanted[i], rig.m.about(4), due[i]);
            CHECK.is("x1 for " + wanted[i], rig.m.scalar(1), due[i]);
        }
    }

    private static void firstTakesTheWidth() {
        int[] bytes = new int[64];
        bytes[56] = 0xfe;
        bytes[57] = 0x81;
        bytes[58] = 0x02;
        bytes[59] = 0x83;
        bytes[8] = 0x7f;
        int[] settings = {Rig.W1 + Rig.G4, Rig.W2 + Rig.G2, Rig.W4 + Rig.G4};
        int[] due = {-2, (short) 0x81fe, 0x830281fe};
        for (int i = 0; i < settings.length; i++) {
            Rig rig = Rig.withFile(8, bytes);
            int from = rig.here();
            rig.configure(0, 0, settings[i]).vector(Op.FIRST, 3, 7, 0).vector(Op.FIRST, 4, 1, 0).op(Op.HALT).run(from);
            CHECK.is("FIRST of register 7 with setting " + settings[i], rig.m.scalar(3), due[i]);
            CHECK.is("FIRST of register 1 with setting " + settings[i], rig.m.scalar(4), 0x7f);
        }
    }

    private static void masksMeanNothingToScalars() {
        Rig rig = new Rig(1);
        rig.m.put(Op.SET, 1, 0, 0, 3, true);
        rig.m.put(Op.CONFIGURE, 2, 1, 0, Rig.W1 + Rig.G4, true);
        rig.m.put(Op.FIRST, 0, 3, 0, 0, true);
        rig.m.put(Op.HALT, 0, 0, 0, 0, true);
        rig.run(0);
        CHECK.is("x2", rig.m.scalar(2), 3);
        CHECK.is("halted", rig.m.about(0), HALTED);
    }
}
