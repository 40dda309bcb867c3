/** "Terms", the setting: each width with each group, vl below 0 and above most, elements, and mask bits. */
public final class SettingTest {
    private static final int[] SETTINGS = {0, 1, 2, 4, 5, 6, 8, 9, 10};
    private static final int[] WIDTHS = {1, 2, 4, 1, 2, 4, 1, 2, 4};
    private static final int[] GROUPS = {1, 1, 1, 2, 2, 2, 4, 4, 4};
    private static final int[] MOST = {8, 4, 2, 16, 8, 4, 32, 16, 8};
    private static final Check CHECK = new Check("SettingTest");

    public static void main(String[] args) {
        lengthsOfEachSetting();
        lengthZeroAfterAnother();
        xOfDIsTheNewLength();
        theFirstSettingIsBytesInSingleRegisters();
        elementsLieWhereTheyAreSaidTo();
        elementsBeyondTheLengthStay();
        elementsHaveASign();
        eachMaskBitStandsForItsElement();
        eachMaskBitIsMadeByItsElement();
        maskBitsCountElementsNotBytes();
        CHECK.end();
    }

    private static Rig configured(int wanted, int setting) {
        return new Rig(1).set(1, wanted).configure(2, 1, setting).op(Op.HALT).run(0);
    }

    private static void length(int s, int wanted, int due) {
        Rig rig = configured(wanted, SETTINGS[s]);
        String name = "CONFIGURE " + SETTINGS[s] + " by " + wanted + ": ";
        CHECK.is(name + "width", rig.m.about(2), WIDTHS[s]);
        CHECK.is(name + "group", rig.m.about(3), GROUPS[s]);
        CHECK.is(name + "vl", rig.m.about(4), due);
        CHECK.is(name + "start", rig.m.about(5), 0);
        CHECK.is(name + "x2", rig.m.scalar(2), due);
        CHECK.is(name + "x1", rig.m.scalar(1), wanted);
    }

    private static void lengthsOfEachSetting() {
        for (int s = 0; s < SETTINGS.length; s++) {
            length(s, Integer.MIN_VALUE, 0);
            length(s, -1, 0);
            length(s, 0, 0);
            length(s, 1, 1);
            length(s, MOST[s] - 1, MOST[s] - 1);
            length(s, MOST[s], MOST[s]);
            length(s, MOST[s] + 1, MOST[s]);
            length(s, 33, MOST[s]);
            length(s, Integer.MAX_VALUE, MOST[s]);
        }
    }

    private static void lengthZeroAfterAnother() {
        Rig rig = new Rig(1).set(1, 20).configure(2, 1, Rig.W1 + Rig.G4).configure(3, 0, Rig.W4 + Rig.G2).op(Op.HALT);
        rig.run(0);
        CHECK.is("x2 keeps the first length", rig.m.scalar(2), 20);
        CHECK.is("vl by x0", rig.m.about(4), 0);
        CHECK.is("x3 by x0", rig.m.scalar(3), 0);
        CHECK.is("width and group of the second", rig.m.about(2) * 10 + rig.m.about(3), 42);
    }

    private static void xOfDIsTheNewLength() {
        Rig same = new Rig(1).set(5, 99).configure(5, 5, Rig.W2).op(Op.HALT).run(0);
        CHECK.is("x5 by itself", same.m.scalar(5), 4);
        Rig zero = new Rig(1).set(5, 99).configure(0, 5, Rig.W2).op(Op.HALT).run(0);
        CHECK.is("x0 stays 0", zero.m.scalar(0), 0);
        CHECK.is("vl all the same", zero.m.about(4), 4);
    }

    /** A machine that was never configured has vl 0, so its vector instructions have no steps. */
    private static void theFirstSettingIsBytesInSingleRegisters() {
        Rig rig = new Rig(4).vector(Op.PLUS, 7, 5, 3).vector(Op.WIDE, 2, 5, 7).vector(Op.FIRST, 1, 7, 0).op(Op.HALT);
        rig.m.go(0);
        CHECK.is("no steps, no waiting", rig.m.cycles(4), 4);
        CHECK.is("halted", rig.m.about(0), LaneMachine.HALTED);
        CHECK.is("steps", rig.m.about(10), 0);
    }

    private static int[] rising() {
        int[] bytes = new int[64];
        for (int k = 0; k < 64; k++) {
            bytes[k] = 3 * k + 1 & 255;
        }
        return bytes;
    }

    /** The group of register 4 becomes what the group of register 0 has more than it, element by element. */
    private static void elementsLieWhereTheyAreSaidTo() {
        for (int s = 0; s < SETTINGS.length; s++) {
            Rig rig = Rig.withFile(3, rising());
            int from = rig.here();
            rig.length(SETTINGS[s], MOST[s]).vector(Op.MINUS, 4, 0, 4).op(Op.HALT).run(from);
            for (int k = 0; k < 64; k++) {
                if (k < 32 || k >= 32 + 8 * GROUPS[s]) {
                    CHECK.is("setting " + SETTINGS[s] + ", byte " + k + " stays", rig.m.file(k), (byte) rising()[k]);
                }
            }
            for (int i = 0; i < MOST[s]; i++) {
                long due = number(rising(), i * WIDTHS[s], WIDTHS[s]) - number(rising(), 32 + i * WIDTHS[s], WIDTHS[s]);
                CHECK.is("setting " + SETTINGS[s] + ", element " + i, rig.element(4, i, WIDTHS[s]), cut(due, WIDTHS[s]));
            }
        }
    }

    private static long number(int[] bytes, int from, int width) {
        long v = 0;
        for (int j = 0; j < width; j++) {
            v += (long) bytes[from + j] << 8 * j;
        }
        return cut(v, width);
    }

    private static long cut(long v, int width) {
        return width == 1 ? (byte) v : width == 2 ? (short) v : (int) v;
    }

    private static void elementsBeyondTheLengthStay() {
        for (int s = 0; s < SETTINGS.length; s++) {
            Rig rig = Rig.withFile(3, rising());
            int from = rig.here();
            rig.length(SETTINGS[s], MOST[s] - 1).vector(Op.PLUS, 4, 0, 0).op(Op.HALT).run(from);
            long last = number(rising(), 32 + (MOST[s] - 1) * WIDTHS[s], WIDTHS[s]);
            CHECK.is("setting " + SETTINGS[s] + ", element vl", rig.element(4, MOST[s] - 1, WIDTHS[s]), last);
            long due = 2 * number(rising(), (MOST[s] - 2) * WIDTHS[s], WIDTHS[s]);
            CHECK.is("setting " + SETTINGS[s] + ", element vl - 1", rig.element(4, MOST[s] - 2, WIDTHS[s]),
                    cut(due, WIDTHS[s]));
        }
    }

    private static void elementsHaveASign() {
        int[][] bytes = {{0x80}, {0xff}, {0x7f}, {0, 0x80}, {0xff, 0xff}, {0xff, 0x7f}, {0, 0, 0, 0x80},
            {0xff, 0xff, 0xff, 0xff}, {0xff, 0xff, 0xff, 0x7f}};
        int[] due = {-128, -1, 127, -32768, -1, 32767, Integer.MIN_VALUE, -1, Integer.MAX_VALUE};
        for (int i = 0; i < bytes.length; i++) {
            int[] file = new int[64];
            System.arraycopy(bytes[i], 0, file, 56, bytes[i].length);
            Rig rig = Rig.withFile(8, file);
            int from = rig.here();
            rig.configure(0, 0, i / 3).vector(Op.FIRST, 5, 7, 0).op(Op.HALT).run(from);
            CHECK.is("element 0 of register 7, case " + i, rig.m.scalar(5), due[i]);
        }
    }

    private static void eachMaskBitStandsForItsElement() {
        for (int bit = 0; bit < 32; bit++) {
            int[] file = new int[64];
            file[bit / 8] = 1 << bit % 8;
            Rig rig = Rig.withFile(5, file);
            int from = rig.here();
            rig.set(6, 9).length(Rig.W1 + Rig.G4, 32).masked(Op.PLUSX, 4, 4, 6).op(Op.HALT).run(from);
            for (int i = 0; i < 32; i++) {
                CHECK.is("mask bit " + bit + ", element " + i, rig.m.file(32 + i), i == bit ? 9 : 0);
            }
        }
    }

    /** Register 0 is of a's group too, but each of its bytes is read before a bit of it is made. */
    private static void eachMaskBitIsMadeByItsElement() {
        for (int bit = 0; bit < 32; bit++) {
            int[] file = new int[64];
            file[32 + bit] = 1;
            Rig rig = Rig.withFile(5, file);
            int from = rig.here();
            rig.length(Rig.W1 + Rig.G4, 32).vector(Op.LESS, 0, 0, 4).op(Op.HALT).run(from);
            for (int k = 0; k < 8; k++) {
                CHECK.is("LESS of element " + bit + ", byte " + k, rig.m.file(k) & 255, k == bit / 8 ? 1 << bit % 8 : 0);
            }
        }
    }

    private static void maskBitsCountElementsNotBytes() {
        int[] file = new int[64];
        file[0] = 0b10;
        Rig rig = Rig.withFile(5, file);
        int from = rig.here();
        rig.set(6, 0x01010101).length(Rig.W4 + Rig.G2, 4).masked(Op.PLUSX, 4, 4, 6).op(Op.HALT).run(from);
        for (int i = 0; i < 4; i++) {
            CHECK.is("width 4, mask bit 1, element " + i, rig.element(4, i, 4), i == 1 ? 0x01010101 : 0);
        }
    }
}
