/** Promises 5 and 9 by what the vector instructions 8 to 16 make. */
public final class VectorInstructionsTest {
    private static final Check CHECK = new Check("VectorInstructionsTest");

    public static void main(String[] args) {
        sumsDifferencesProducts();
        resultsAreCut();
        plusxTakesTheScalarOfThen();
        lessMakesMaskBits();
        lessOverItsOwnSources();
        wideDoublesTheWidth();
        sumAddsAll();
        sumOfNothing();
        slideMovesElements();
        slideFarAway();
        gatherPicksElements();
        masksLeaveOut();
        maskedLessOverItsMask();
        lengthZeroDoesNothing();
        groupsSpanRegisters();
        CHECK.end();
    }

    /** Bytes of a whole file, of which register r begins with these. */
    private static int[] file(int r, int... bytes) {
        int[] all = new int[64];
        System.arraycopy(bytes, 0, all, 8 * r, bytes.length);
        return all;
    }

    private static int[] and(int[] all, int r, int... bytes) {
        System.arraycopy(bytes, 0, all, 8 * r, bytes.length);
        return all;
    }

    private static Rig done(int[] bytes, int setting, int length, int op, int d, int a, int b) {
        Rig rig = Rig.withFile(3, bytes);
        int from = rig.here();
        return rig.length(setting, length).vector(op, d, a, b).op(Op.HALT).run(from);
    }

    private static void elements(String name, Rig rig, int r, int width, int... due) {
        for (int i = 0; i < due.length; i++) {
            CHECK.is(name + ", element " + i + " of register " + r, rig.element(r, i, width), due[i]);
        }
    }

    private static void sumsDifferencesProducts() {
        int[] bytes = and(file(2, 1, 2, 3, 4, 250, 6, 7, 8), 3, 10, 20, 30, 40, 50, 60, 70, 80);
        elements("PLUS", done(bytes, Rig.W1, 6, Op.PLUS, 5, 2, 3), 5, 1, 11, 22, 33, 44, 44, 66, 0, 0);
        elements("MINUS", done(bytes, Rig.W1, 8, Op.MINUS, 5, 2, 3), 5, 1, -9, -18, -27, -36, -56, -54, -63, -72);
        elements("TIMES", done(bytes, Rig.W1, 5, Op.TIMES, 5, 2, 3), 5, 1, 10, 40, 90, (byte) 160, (byte) -300, 0);
        elements("PLUS onto a", done(bytes, Rig.W1, 2, Op.PLUS, 2, 2, 3), 2, 1, 11, 22, 3);
        elements("MINUS onto b", done(bytes, Rig.W1, 2, Op.MINUS, 3, 2, 3), 3, 1, -9, -18, 30);
        elements("MINUS of itself", done(bytes, Rig.W1, 8, Op.MINUS, 2, 2, 2), 2, 1, 0, 0, 0, 0, 0, 0, 0, 0);
    }

    private static void resultsAreCut() {
        int[] halves = and(file(2, 0xff, 0x7f, 0, 0x80), 3, 1, 0, 0xff, 0xff);
        elements("PLUS of width 2", done(halves, Rig.W2, 2, Op.PLUS, 4, 2, 3), 4, 2, -32768, 32767, 0);
        elements("TIMES of width 2", done(halves, Rig.W2, 2, Op.TIMES, 4, 2, 3), 4, 2, 32767, -32768, 0);
        int[] wholes = and(file(2, 0xff, 0xff, 0xff, 0x7f, 0, 0, 1, 0), 3, 1, 0, 0, 0, 0, 0, 1, 0);
        elements("PLUS of width 4", done(wholes, Rig.W4, 2, Op.PLUS, 4, 2, 3), 4, 4, Integer.MIN_VALUE, 131072);
        elements("TIMES of width 4", done(wholes, Rig.W4, 2, Op.TIMES, 4, 2, 3), 4, 4, Integer.MAX_VALUE, 0);
        elements("MINUS of width 4", done(wholes, Rig.W4, 2, Op.MINUS, 4, 3, 2), 4, 4, -2147483646, 0);
    }

    private static void plusxTakesTheScalarOfThen() {
        Rig rig = Rig.withFile(1, file(2, 1, 2, 3, 4, 5, 6, 7, 8));
        int from = rig.here();
        rig.set(3, 1000).length(Rig.W1, 8).vector(Op.PLUSX, 4, 2, 3).set(3, 5).vector(Op.PLUSX, 5, 2, 3);
        rig.op(Op.HALT).run(from);
        elements("PLUSX by 1000", rig, 4, 1, -23, -22, -21, -20, -19, -18, -17, -16);
        elements("PLUSX by 5", rig, 5, 1, 6, 7, 8, 9, 10, 11, 12, 13);
    }

    private static void lessMakesMaskBits() {
        int[] bytes = and(file(2, 1, 5, 128, 127, 3, 3, 0, 255), 3, 2, 5, 127, 128, 4, 2, 255, 0);
        bytes[40] = 255;
        bytes[41] = 77;
        Rig rig = done(bytes, Rig.W1, 8, Op.LESS, 5, 2, 3);
        CHECK.is("LESS of 8", rig.m.file(40) & 255, 0b10010101);
        CHECK.is("LESS leaves the byte behind", rig.m.file(41), 77);
        CHECK.is("LESS of 3 leaves the other bits", done(bytes, Rig.W1, 3, Op.LESS, 5, 2, 3).m.file(40) & 255, 0b11111101);
        int[] zeros = and(file(2, 1, 1, 0, 0, 9, 9, 9, 9), 3, 1, 2, 1, 0, 9, 9, 9, 9);
        CHECK.is("LESS of width 2", done(zeros, Rig.W2, 4, Op.LESS, 7, 2, 3).m.file(56), 3);
        int[] many = new int[64];
        for (int k = 32; k < 48; k++) {
            many[k] = k % 3;
        }
        Rig wide = done(many, Rig.W1 + Rig.G2, 16, Op.LESS, 7, 2, 4);
        CHECK.is("LESS of 16, byte 0", wide.m.file(56) & 255, 0b01101101);
        CHECK.is("LESS of 16, byte 1", wide.m.file(57) & 255, 0b11011011);
        CHECK.is("LESS of 16 has two bytes", wide.m.file(58), 0);
    }

    /** Steps are done in order, so a later one sees the bits that an earlier one made. */
    private static void lessOverItsOwnSources() {
        int[] bytes = new int[64];
        java.util.Arrays.fill(bytes, 0, 16, 1);
        bytes[8] = 0;
        Rig rig = done(bytes, Rig.W1 + Rig.G2, 16, Op.LESS, 1, 4, 0);
        CHECK.is("bits 0 to 7, made over element 8 of b", rig.m.file(8) & 255, 255);
        CHECK.is("bits 8 to 15: 8 sees -1, 9 sees the 0 of bit 8", rig.m.file(9) & 255, 0b11111100);
    }

    private static void wideDoublesTheWidth() {
        int[] bytes = and(file(2, 127, 128, 255, 1), 3, 127, 128, 1, 255);
        Rig rig = done(bytes, Rig.W1, 4, Op.WIDE, 4, 2, 3);
        elements("WIDE of width 1", rig, 4, 2, 254, -256, 0, 0, 0);
        int[] halves = and(file(2, 0xff, 0x7f, 0, 0x80, 1, 0), 6, 0xff, 0x7f, 0, 0x80, 0xff, 0xff);
        Rig two = done(halves, Rig.W2 + Rig.G2, 8, Op.WIDE, 4, 2, 2);
        CHECK.is("WIDE of width 2, element 0", two.element(4, 0, 4), 65534);
        CHECK.is("WIDE of width 2, element 1", two.element(4, 1, 4), -65536);
        CHECK.is("WIDE of width 2, element 7", two.element(4, 7, 4), 0);
        int[] all = new int[64];
        for (int k = 0; k < 8; k++) {
            all[k] = 100 + k;
        }
        Rig full = done(all, Rig.W1, 8, Op.WIDE, 6, 0, 0);
        elements("WIDE of 8", full, 6, 2, 200, 202, 204, 206, 208, 210, 212, 214);
    }

    private static void sumAddsAll() {
        int[] bytes = and(file(2, 1, 2, 3, 4, 5, 250, 7, 8), 5, 100, 9);
        elements("SUM of 8", done(bytes, Rig.W1, 8, Op.SUM, 3, 2, 5), 3, 1, 124, 0);
        elements("SUM of 3 onto b", done(bytes, Rig.W1, 3, Op.SUM, 5, 2, 5), 5, 1, 106, 9);
        elements("SUM is cut", done(and(file(2, 100, 100), 5, 100), Rig.W1, 2, Op.SUM, 1, 2, 5), 1, 1, 44, 0);
        int[] halves = and(file(4, 0xff, 0xff, 1, 1), 6, 2);
        elements("SUM of width 2 in a group", done(halves, Rig.W2 + Rig.G2, 8, Op.SUM, 3, 4, 7), 3, 2, 256, 0);
        elements("SUM over a and b", done(file(2, 1, 2, 3), Rig.W1, 3, Op.SUM, 2, 2, 2), 2, 1, 7, 2, 3);
        elements("SUM into its group", done(file(4, 1, 1, 1, 1, 1, 1, 1, 1, 5), Rig.W1 + Rig.G2, 16, Op.SUM, 5, 4, 5), 5, 1, 18, 0);
        int[] whole = and(file(2, 0xff, 0xff, 0xff, 0x7f), 3, 2);
        elements("SUM of width 4 wraps", done(whole, Rig.W4, 2, Op.SUM, 1, 2, 3), 1, 4, -2147483647, 0);
    }

    private static void sumOfNothing() {
        int[] bytes = and(file(2, 1, 2, 3), 5, 9);
        bytes[24] = 55;
        elements("SUM of length 0", done(bytes, Rig.W1, 0, Op.SUM, 3, 2, 5), 3, 1, 55);
        Rig rig = Rig.withFile(3, bytes);
        int from = rig.here();
        int before = rig.m.about(10);
        rig.length(Rig.W1, 3).masked(Op.SUM, 3, 2, 5).op(Op.HALT).run(from);
        elements("SUM of none by the mask", rig, 3, 1, 55);
        CHECK.is("it has its step all the same", rig.m.about(10) - before, 1);
        int[] some = and(file(2, 1, 2, 3), 5, 9);
        some[0] = 0b101;
        Rig part = Rig.withFile(3, some);
        int at = part.here();
        part.length(Rig.W1, 3).masked(Op.SUM, 3, 2, 5).op(Op.HALT).run(at);
        elements("SUM of some by the mask", part, 3, 1, 13);
    }

    private static Rig slid(int setting, int length, int by) {
        int[] bytes = new int[64];
        for (int k = 0; k < 32; k++) {
            bytes[k] = k + 1;
        }
        java.util.Arrays.fill(bytes, 32, 64, 99);
        Rig rig = Rig.withFile(3, bytes);
        int from = rig.here();
        return rig.set(3, by).length(setting, length).vector(Op.SLIDE, 4, 0, 3).op(Op.HALT).run(from);
    }

    private static void slideMovesElements() {
        elements("SLIDE by 0", slid(Rig.W1, 8, 0), 4, 1, 1, 2, 3, 4, 5, 6, 7, 8, 99);
        elements("SLIDE by 3", slid(Rig.W1, 8, 3), 4, 1, 4, 5, 6, 7, 8, 0, 0, 0, 99);
        elements("SLIDE by 3 reaches beyond vl", slid(Rig.W1, 4, 3), 4, 1, 4, 5, 6, 7, 99);
        elements("SLIDE by -2", slid(Rig.W1, 8, -2), 4, 1, 0, 0, 1, 2, 3, 4, 5, 6, 99);
        elements("SLIDE by 8", slid(Rig.W1, 8, 8), 4, 1, 0, 0, 0, 0, 0, 0, 0, 0, 99);
        elements("SLIDE by 7", slid(Rig.W1, 8, 7), 4, 1, 8, 0);
        elements("SLIDE by -8", slid(Rig.W1, 8, -8), 4, 1, 0, 0, 0, 0, 0, 0, 0, 0, 99);
        elements("SLIDE in a group", slid(Rig.W1 + Rig.G2, 16, 7), 4, 1, 8, 9, 10, 11, 12, 13, 14, 15, 16, 0);
        elements("SLIDE of width 2", slid(Rig.W2, 3, 1), 4, 2, 0x0403, 0x0605, 0x0807, 0x6363);
    }

    private static void slideFarAway() {
        elements("SLIDE by the most", slid(Rig.W1, 8, Integer.MAX_VALUE), 4, 1, 0, 0, 0, 0, 0, 0, 0, 0, 99);
        elements("SLIDE by the least", slid(Rig.W1, 8, Integer.MIN_VALUE), 4, 1, 0, 0, 0, 0, 0, 0, 0, 0, 99);
    }

    private static void gatherPicksElements() {
        int[] bytes = and(file(2, 10, 11, 12, 13, 14, 15, 16, 17, 99), 4, 7, 0, 8, 255, 3, 3, 128, 1);
        elements("GATHER", done(bytes, Rig.W1, 8, Op.GATHER, 5, 2, 4), 5, 1, 17, 10, 0, 0, 13, 13, 0, 11);
        elements("GATHER beyond vl", done(bytes, Rig.W1, 1, Op.GATHER, 5, 2, 4), 5, 1, 17, 0);
        int[] grouped = and(file(2, 10, 11, 12, 13, 14, 15, 16, 17, 18, 19), 4, 8, 9, 16, 15);
        elements("GATHER in a group", done(grouped, Rig.W1 + Rig.G2, 4, Op.GATHER, 6, 2, 4), 6, 1, 18, 19, 0, 0);
        int[] halves = and(file(2, 1, 2, 3, 4), 4, 1, 0, 0, 1, 255, 255, 0, 0);
        elements("GATHER of width 2", done(halves, Rig.W2, 4, Op.GATHER, 5, 2, 4), 5, 2, 0x0403, 0, 0, 0x0201);
        int[] wholes = and(file(2, 1, 2, 3, 4), 4, 0, 0, 0, 0, 0, 0, 0, 0x80);
        elements("GATHER of width 4", done(wholes, Rig.W4, 2, Op.GATHER, 5, 2, 4), 5, 4, 0x04030201, 0);
        elements("GATHER by a itself", done(file(2, 2, 1, 0), Rig.W1, 3, Op.GATHER, 5, 2, 2), 5, 1, 0, 1, 2);
    }

    private static void masksLeaveOut() {
        int[] bytes = and(file(2, 1, 2, 3, 4, 5, 6, 7, 8), 5, 9, 9, 9, 9, 9, 9, 9, 9);
        bytes[0] = 0b10110010;
        Rig rig = Rig.withFile(3, bytes);
        int from = rig.here();
        int before = rig.m.about(10);
        rig.length(Rig.W1, 7).masked(Op.PLUS, 5, 2, 2).op(Op.HALT).run(from);
        elements("masked PLUS", rig, 5, 1, 9, 4, 9, 9, 10, 12, 9, 9);
        CHECK.is("steps left out count too", rig.m.about(10) - before, 7);
        int[] many = new int[64];
        many[0] = 1;
        many[1] = 2;
        many[3] = 0x80;
        java.util.Arrays.fill(many, 32, 64, 5);
        Rig group = Rig.withFile(8, many);
        int at = group.here();
        group.length(Rig.W1 + Rig.G4, 32).masked(Op.PLUS, 4, 4, 4).op(Op.HALT).run(at);
        for (int i = 0; i < 32; i++) {
            CHECK.is("masked PLUS of 32, " + i, group.element(4, i, 1), i == 0 || i == 9 || i == 31 ? 10 : 5);
        }
    }

    private static void maskedLessOverItsMask() {
        int[] bytes = and(file(2, 0, 0, 0, 9, 9, 9), 3, 1, 1, 1, 1, 1, 1);
        bytes[0] = 0b11011010;
        Rig rig = Rig.withFile(3, bytes);
        int from = rig.here();
        rig.length(Rig.W1, 6).masked(Op.LESS, 0, 2, 3).op(Op.HALT).run(from);
        CHECK.is("masked LESS over the mask", rig.m.file(0) & 255, 0b11000010);
    }

    private static void lengthZeroDoesNothing() {
        int[] bytes = and(file(2, 1, 2), 5, 9, 9);
        for (int op = Op.PLUS; op <= Op.LOADF; op++) {
            Rig rig = Rig.withFile(3, bytes);
            int from = rig.here();
            int before = rig.m.about(10);
            rig.set(6, -50).length(Rig.W1, 0).vector(op, op == Op.WIDE ? 4 : 5, 6, 6).op(Op.HALT);
            rig.m.go(from);
            rig.m.cycles(4);
            CHECK.is("queue after operation " + op + " of length 0", rig.m.about(8), 0);
            rig.m.cycles(1);
            CHECK.is("state after operation " + op + " of length 0", rig.m.about(0), LaneMachine.HALTED);
            CHECK.is("steps of operation " + op + " of length 0", rig.m.about(10) - before, 0);
            elements("operation " + op + " of length 0", rig, 5, 1, 9, 9);
        }
    }

    private static void groupsSpanRegisters() {
        int[] bytes = new int[64];
        for (int k = 0; k < 32; k++) {
            bytes[k] = k;
        }
        Rig rig = done(bytes, Rig.W1 + Rig.G4, 31, Op.PLUS, 4, 0, 0);
        for (int i = 0; i < 32; i++) {
            CHECK.is("PLUS in a group of 4, " + i, rig.element(4, i, 1), i < 31 ? 2 * i : 0);
        }
        Rig two = done(bytes, Rig.W4 + Rig.G2, 9, Op.PLUS, 6, 2, 2);
        CHECK.is("PLUS of width 4 in a group of 2", two.element(7, 1, 4), 2 * 0x1f1e1d1c);
        CHECK.is("vl of width 4 in a group of 2", two.m.about(4), 4);
    }
}
