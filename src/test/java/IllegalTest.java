/** Promises 5 and 11 by which instructions make the machine ILLEGAL, and which do not. */
public final class IllegalTest {
    private static final Check CHECK = new Check("IllegalTest");

    public static void main(String[] args) {
        everyInstructionUnderEverySetting();
        registersOfGroupsOfTwo();
        registersOfGroupsOfFour();
        wideNeedsRoom();
        wideOverItsSources();
        maskedOverTheMask();
        slideAndGatherOverTheirSources();
        scalarsAreNeverIllegal();
        noneThere();
        illegalStaysNextAndTheQueueGoesOn();
        illegalDoesNotWait();
        noneThereDoesNotWait();
        illegalWithoutElements();
        illegalByTheSettingOfThen();
        CHECK.end();
    }

    /** Whether the machine becomes ILLEGAL at this instruction. */
    private static boolean isIllegal(int setting, int op, int d, int a, int b, boolean masked) {
        Rig rig = new Rig(2).length(setting, 1);
        rig.m.put(op, d, a, b, 0, masked);
        rig.op(Op.HALT).run(0);
        boolean isSo = rig.m.about(0) == LaneMachine.ILLEGAL;
        CHECK.is("next after " + op + " " + d + " " + a + " " + b, rig.m.about(1), isSo ? 2 : 3);
        return isSo;
    }

    private static void legal(int setting, int op, int d, int a, int b) {
        CHECK.holds("legal with setting " + setting + ": " + op + " " + d + " " + a + " " + b,
                !isIllegal(setting, op, d, a, b, false));
    }

    private static void illegal(int setting, int op, int d, int a, int b) {
        CHECK.holds("illegal with setting " + setting + ": " + op + " " + d + " " + a + " " + b,
                isIllegal(setting, op, d, a, b, false));
    }

    /** The document's paragraph, sentence by sentence. */
    private static boolean isDue(int width, int group, int op, int d, int a, int b, boolean masked) {
        boolean isWide = op == Op.WIDE;
        int groupOfD = isWide ? 2 * group : op == Op.SUM ? 1 : group;
        boolean isDAnyRegister = op == Op.LESS || op == Op.SUM;
        boolean isARegister = op < Op.LOAD;
        boolean isBRegister = op == Op.LOADX || isARegister && op != Op.PLUSX && op != Op.SLIDE && op != Op.SUM;
        if (!isDAnyRegister && d % groupOfD != 0 || isARegister && a % group != 0 || isBRegister && b % group != 0) {
            return true;
        }
        if (isWide && (width == 4 || group == 4)) {
            return true;
        }
        if (masked && op != Op.LESS && op != Op.STORE && d == 0) {
            return true;
        }
        if (op == Op.SLIDE && d == a || op == Op.GATHER && (d == a || d == b)) {
            return true;
        }
        return isWide && (a >= d && a < d + groupOfD || b >= d && b < d + groupOfD);
    }

    private static void everyInstructionUnderEverySetting() {
        int[] settings = {0, 1, 2, 4, 5, 6, 8, 9, 10};
        for (int setting : settings) {
            for (int op = Op.PLUS; op <= Op.LOADF; op++) {
                for (int which = 0; which < 1024; which++) {
                    int d = which & 7;
                    int a = which >> 3 & 7;
                    int b = which >> 6 & 7;
                    boolean masked = which >= 512;
                    Rig rig = new Rig(8).length(setting, 1);
                    rig.m.put(op, d, a, b, 0, masked);
                    rig.m.go(0);
                    rig.m.cycles(3);
                    boolean isSo = rig.m.about(0) == LaneMachine.ILLEGAL;
                    boolean isDue = isDue(1 << setting % 4, 1 << setting / 4, op, d, a, b, masked);
                    CHECK.holds("setting " + setting + ": " + op + " " + d + " " + a + " " + b + " " + masked
                            + " illegal: " + isDue, isSo == isDue);
                }
            }
        }
    }

    private static void registersOfGroupsOfTwo() {
        int s = Rig.W1 + Rig.G2;
        for (int op : new int[] {Op.PLUS, Op.MINUS, Op.TIMES, Op.GATHER}) {
            legal(s, op, 2, 4, 6);
            illegal(s, op, 1, 4, 6);
            illegal(s, op, 2, 5, 6);
            illegal(s, op, 2, 4, 7);
        }
        for (int op : new int[] {Op.PLUSX, Op.SLIDE}) {
            legal(s, op, 2, 4, 7);
            illegal(s, op, 3, 4, 7);
            illegal(s, op, 2, 5, 6);
        }
        legal(s, Op.LESS, 7, 4, 6);
        legal(s, Op.LESS, 5, 4, 6);
        illegal(s, Op.LESS, 2, 3, 6);
        illegal(s, Op.LESS, 2, 4, 1);
        legal(s, Op.SUM, 7, 4, 1);
        illegal(s, Op.SUM, 2, 5, 6);
        for (int op : new int[] {Op.LOAD, Op.STORE, Op.LOADF}) {
            legal(s, op, 2, 5, 5);
            illegal(s, op, 3, 4, 4);
        }
        legal(s, Op.LOADX, 2, 5, 4);
        legal(s, Op.LOADX, 2, 5, 2);
        illegal(s, Op.LOADX, 1, 4, 4);
        illegal(s, Op.LOADX, 2, 4, 3);
    }

    private static void registersOfGroupsOfFour() {
        int s = Rig.W2 + Rig.G4;
        legal(s, Op.PLUS, 4, 0, 4);
        legal(s, Op.PLUS, 0, 4, 4);
        for (int r : new int[] {1, 2, 3, 5, 6, 7}) {
            illegal(s, Op.PLUS, r, 0, 4);
            illegal(s, Op.PLUS, 4, r, 4);
            illegal(s, Op.PLUS, 4, 0, r);
            legal(s, Op.LESS, r, 0, 4);
            legal(s, Op.SUM, r, 0, r);
            legal(s, Op.PLUSX, 4, 0, r);
        }
        legal(Rig.W4 + Rig.G1, Op.PLUS, 7, 5, 3);
    }

    private static void wideNeedsRoom() {
        legal(Rig.W1 + Rig.G1, Op.WIDE, 2, 5, 7);
        legal(Rig.W2 + Rig.G1, Op.WIDE, 6, 5, 1);
        legal(Rig.W2 + Rig.G2, Op.WIDE, 4, 2, 0);
        legal(Rig.W1 + Rig.G2, Op.WIDE, 0, 4, 6);
        illegal(Rig.W4 + Rig.G1, Op.WIDE, 2, 5, 7);
        illegal(Rig.W4 + Rig.G2, Op.WIDE, 4, 2, 0);
        illegal(Rig.W1 + Rig.G4, Op.WIDE, 0, 4, 4);
        illegal(Rig.W1 + Rig.G4, Op.WIDE, 4, 0, 0);
        illegal(Rig.W2 + Rig.G4, Op.WIDE, 4, 0, 0);
        illegal(Rig.W1 + Rig.G1, Op.WIDE, 3, 5, 7);
        illegal(Rig.W1 + Rig.G2, Op.WIDE, 2, 6, 0);
        illegal(Rig.W1 + Rig.G2, Op.WIDE, 6, 0, 0);
        illegal(Rig.W1 + Rig.G2, Op.WIDE, 4, 1, 0);
        illegal(Rig.W1 + Rig.G2, Op.WIDE, 4, 0, 3);
    }

    private static void wideOverItsSources() {
        for (int r = 0; r < 8; r++) {
            boolean isOver = r == 4 || r == 5;
            CHECK.holds("WIDE with a " + r, isIllegal(Rig.W1, Op.WIDE, 4, r, 0, false) == isOver);
            CHECK.holds("WIDE with b " + r, isIllegal(Rig.W1, Op.WIDE, 4, 0, r, false) == isOver);
        }
        for (int r = 0; r < 8; r += 2) {
            CHECK.holds("WIDE of groups with a " + r,
                    isIllegal(Rig.W2 + Rig.G2, Op.WIDE, 4, r, 0, false) == (r >= 4));
            CHECK.holds("WIDE of groups with b " + r,
                    isIllegal(Rig.W2 + Rig.G2, Op.WIDE, 0, 4, r, false) == (r < 4));
        }
    }

    private static void maskedOverTheMask() {
        for (int op = Op.PLUS; op <= Op.LOADF; op++) {
            boolean isFine = op == Op.LESS || op == Op.STORE;
            CHECK.holds("masked " + op + " with d 0", isIllegal(Rig.W1, op, 0, 2, 4, true) == !isFine);
            CHECK.holds("masked " + op + " with d 0 in groups", isIllegal(Rig.W1 + Rig.G2, op, 0, 4, 4, true) == !isFine);
            CHECK.holds("masked " + op + " with d 6", !isIllegal(Rig.W1, op, 6, 2, 4, true));
            CHECK.holds("unmasked " + op + " with d 0", !isIllegal(Rig.W1, op, 0, 2, 4, false));
        }
        CHECK.holds("masked PLUS of the mask", !isIllegal(Rig.W1, Op.PLUS, 2, 0, 0, true));
        CHECK.holds("masked SUM into the group of 0", !isIllegal(Rig.W1 + Rig.G4, Op.SUM, 1, 0, 0, true));
    }

    private static void slideAndGatherOverTheirSources() {
        illegal(Rig.W1, Op.SLIDE, 3, 3, 0);
        legal(Rig.W1, Op.SLIDE, 3, 2, 3);
        illegal(Rig.W1, Op.GATHER, 3, 3, 0);
        illegal(Rig.W1, Op.GATHER, 3, 0, 3);
        legal(Rig.W1, Op.GATHER, 3, 0, 0);
        legal(Rig.W1, Op.PLUS, 3, 3, 3);
        legal(Rig.W1, Op.LOADX, 3, 3, 3);
        illegal(Rig.W2 + Rig.G4, Op.SLIDE, 4, 4, 0);
        illegal(Rig.W2 + Rig.G4, Op.GATHER, 4, 0, 4);
    }

    private static void scalarsAreNeverIllegal() {
        for (int op = Op.SET; op <= Op.FIRST; op++) {
            if (op != Op.UNLIKE && op != Op.HALT) {
                CHECK.holds("scalar " + op, !isIllegal(Rig.W1 + Rig.G4, op, 3, 3, 5, true));
            }
        }
    }

    private static void noneThere() {
        Rig rig = new Rig(1).set(1, 1);
        rig.m.go(0);
        rig.m.cycles(1);
        CHECK.is("it still runs behind the last", rig.m.about(0), LaneMachine.RUNS);
        rig.m.cycles(1);
        CHECK.is("none there", rig.m.about(0), LaneMachine.ILLEGAL);
        CHECK.is("its number is next", rig.m.about(1), 1);
        CHECK.is("put of it", rig.set(2, 2).m.about(9), 2);
        rig.m.cycles(3);
        CHECK.is("it stays illegal", rig.m.about(0), LaneMachine.ILLEGAL);
        rig.m.go(1);
        rig.m.cycles(1);
        CHECK.is("go runs it", rig.m.scalar(2), 2);
        Rig full = new Rig(1);
        for (int i = 0; i < 40; i++) {
            full.set(1, i);
        }
        full.m.go(38);
        full.m.cycles(3);
        CHECK.is("none there behind 40", full.m.about(0) * 100 + full.m.about(1), 340);
    }

    private static void illegalStaysNextAndTheQueueGoesOn() {
        Rig rig = new Rig(1).length(Rig.W1, 8).vector(Op.PLUS, 1, 2, 2).vector(Op.SLIDE, 1, 1, 0).set(1, 9);
        rig.m.go(0);
        rig.m.cycles(4);
        CHECK.is("illegal with a queue", rig.m.about(0) * 10 + rig.m.about(8), 31);
        CHECK.badState("go before it is empty", () -> rig.m.go(4));
        CHECK.badState("limit before it is empty", () -> rig.m.limit(4));
        rig.m.cycles(7);
        CHECK.is("the queue went on", rig.m.about(8) * 100 + rig.m.about(10), 8);
        CHECK.is("nothing behind it was done", rig.m.scalar(1), 0);
        CHECK.is("it stays next", rig.m.about(1), 3);
    }

    /** Four are in the queue, and the fifth is illegal: there is nothing to wait for. */
    private static void illegalDoesNotWait() {
        Rig rig = new Rig(1).length(Rig.W1, 8);
        for (int i = 0; i < 4; i++) {
            rig.vector(Op.PLUS, 1, 1, 1);
        }
        rig.masked(Op.PLUS, 0, 1, 1);
        rig.m.go(0);
        rig.m.cycles(6);
        CHECK.is("four in the queue", rig.m.about(8), 4);
        CHECK.is("still runs", rig.m.about(0), LaneMachine.RUNS);
        rig.m.cycles(1);
        CHECK.is("illegal at once", rig.m.about(0) * 10 + rig.m.about(8), 34);
        Rig load = new Rig(1).length(Rig.W1, 8).vector(Op.LOAD, 1, 0, 0).masked(Op.LOAD, 0, 0, 0);
        load.m.go(0);
        load.m.cycles(4);
        CHECK.is("an illegal LOAD does not wait for another", load.m.about(0), LaneMachine.ILLEGAL);
    }

    private static void noneThereDoesNotWait() {
        Rig rig = new Rig(1).length(Rig.W1, 8);
        for (int i = 0; i < 4; i++) {
            rig.vector(Op.PLUS, 1, 1, 1);
        }
        rig.m.go(0);
        rig.m.cycles(7);
        CHECK.is("none there behind four in the queue", rig.m.about(0) * 10 + rig.m.about(8), 34);
        CHECK.is("its number is next", rig.m.about(1), 6);
    }

    private static void illegalWithoutElements() {
        Rig rig = new Rig(1).length(Rig.W1, 0).vector(Op.SLIDE, 3, 3, 0).op(Op.HALT).run(0);
        CHECK.is("illegal also with vl 0", rig.m.about(0) * 10 + rig.m.about(1), 32);
    }

    /** An instruction becomes illegal by the setting that is there when it is next, and by no other. */
    private static void illegalByTheSettingOfThen() {
        Rig rig = new Rig(8).length(Rig.W1 + Rig.G2, 1).length(Rig.W1, 1).vector(Op.PLUS, 3, 5, 7);
        rig.length(Rig.W1 + Rig.G2, 1);
        rig.m.put(Op.UNLIKE, 0, 7, 0, 4, false);
        rig.m.go(0);
        rig.m.cycles(5);
        CHECK.is("legal in single registers", rig.m.about(0) * 10 + rig.m.about(8), 1);
        rig.m.cycles(4);
        CHECK.is("illegal in groups of two", rig.m.about(0) * 10 + rig.m.about(1), 34);
    }
}
