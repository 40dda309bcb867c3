/** "Terms", instructions 8 to 16 at their edges: every width, values that are cut, elements that there are none of. */
public final class VectorEdgesTest {
    private static final int[] SETTINGS = {0, 1, 2, 4, 5, 6, 8, 9, 10};
    private static final int[] WIDTHS = {1, 2, 4, 1, 2, 4, 1, 2, 4};
    private static final int[] MOST = {8, 4, 2, 16, 8, 4, 32, 16, 8};
    private static final Check CHECK = new Check("VectorEdgesTest");

    public static void main(String[] args) {
        resultsAreCutToEachWidth();
        plusxIsCutToEachWidth();
        lessHoldsSignsAgainstOneAnother();
        lessClearsBits();
        wideKeepsWhatAWidthWouldCut();
        sumIsCutToEachWidth();
        sumWritesElementZeroAlone();
        sumTakesAnyRegisterForDAndB();
        slideReachesTheEdgesOfEachGroup();
        gatherReachesTheEdgesOfEachGroup();
        emptyRangesDoNothing();
        masksThatLeaveOutAllDoNothing();
        masksThatLeaveOutNoneDoAll();
        tailsStay();
        CHECK.end();
    }

    private static long cut(long v, int width) {
        return width == 1 ? (byte) v : width == 2 ? (short) v : (int) v;
    }

    private static long[] edges(int width) {
        long most = (1L << 8 * width - 1) - 1;
        return new long[] {-most - 1, -most, -2, -1, 0, 1, 2, most - 1, most};
    }

    private static void write(int[] bytes, int from, int width, long v) {
        for (int j = 0; j < width; j++) {
            bytes[from + j] = (int) (v >> 8 * j) & 255;
        }
    }

    /** A file of which the group of register r has these elements. */
    private static int[] with(int[] bytes, int r, int width, long... elements) {
        for (int i = 0; i < elements.length; i++) {
            write(bytes, 8 * r + i * width, width, elements[i]);
        }
        return bytes;
    }

    private static long unsigned(long v, int width) {
        return v & (1L << 8 * width) - 1;
    }

    private static Rig done(int[] bytes, int setting, int length, int op, int d, int a, int b) {
        Rig rig = Rig.withFile(7, bytes);
        int from = rig.here();
        return rig.length(setting, length).vector(op, d, a, b).op(Op.HALT).run(from);
    }

    private static long due(int op, long a, long b) {
        return op == Op.MINUS ? a - b : op == Op.TIMES ? a * b : a + b;
    }

    /** Each edge with itself and with all the others, eight at a time in groups of four. */
    private static void resultsAreCutToEachWidth() {
        for (int op : new int[] {Op.PLUS, Op.MINUS, Op.TIMES}) {
            for (int power = 0; power < 3; power++) {
                int width = 1 << power;
                long[] edges = edges(width);
                for (int pair = 0; pair < 81; pair += 8) {
                    long[] a = new long[8];
                    long[] b = new long[8];
                    for (int i = 0; i < 8; i++) {
                        a[i] = edges[(pair + i) % 81 / 9];
                        b[i] = edges[(pair + i) % 9];
                    }
                    int[] bytes = with(with(new int[64], 0, width, a), 4, width, b);
                    Rig rig = done(bytes, power + Rig.G4, 8, op, 4, 0, 4);
                    for (int i = 0; i < 8; i++) {
                        CHECK.is("operation " + op + " of " + a[i] + " and " + b[i] + ", width " + width,
                                rig.element(4, i, width), cut(due(op, a[i], b[i]), width));
                    }
                }
            }
        }
    }

    private static void plusxIsCutToEachWidth() {
        int[] scalars = {Integer.MIN_VALUE, -65536, -256, -255, -1, 0, 1, 128, 255, 256, 65536, Integer.MAX_VALUE};
        for (int power = 0; power < 3; power++) {
            int width = 1 << power;
            long[] edges = java.util.Arrays.copyOf(edges(width), 8);
            for (int scalar : scalars) {
                Rig rig = Rig.withFile(7, with(new int[64], 0, width, edges));
                int from = rig.here();
                rig.set(5, scalar).length(power + Rig.G4, 8).vector(Op.PLUSX, 4, 0, 5).op(Op.HALT).run(from);
                for (int i = 0; i < 8; i++) {
                    CHECK.is("PLUSX of " + edges[i] + " by " + scalar + ", width " + width,
                            rig.element(4, i, width), cut(edges[i] + scalar, width));
                }
            }
        }
    }

    private static void lessHoldsSignsAgainstOneAnother() {
        for (int power = 0; power < 3; power++) {
            int width = 1 << power;
            long[] edges = edges(width);
            for (int k = 0; k < 9; k++) {
                long[] other = new long[8];
                java.util.Arrays.fill(other, edges[k]);
                int[] bytes = with(with(new int[64], 0, width, java.util.Arrays.copyOf(edges, 8)), 4, width, other);
                Rig rig = done(bytes, power + Rig.G4, 8, Op.LESS, 7, 0, 4);
                int bits = 0;
                for (int i = 0; i < 8; i++) {
                    bits |= edges[i] < edges[k] ? 1 << i : 0;
                }
                if (power < 2) {
                    CHECK.is("LESS than " + edges[k] + ", width " + width, rig.m.file(56) & 255, bits);
                }
                Rig two = done(with(with(new int[64], 1, width, edges[2], edges[6]), 2, width, edges[k], edges[k]),
                        power, 2, Op.LESS, 7, 1, 2);
                int least = (edges[2] < edges[k] ? 1 : 0) + (edges[6] < edges[k] ? 2 : 0);
                CHECK.is("LESS of two than " + edges[k] + ", width " + width, two.m.file(56), least);
            }
        }
    }

    private static void lessClearsBits() {
        int[] bytes = with(new int[64], 2, 1, 5, 4, 5, 6, 5, 4, 5, 6);
        with(bytes, 3, 1, 5, 5, 5, 5, 5, 5, 5, 5);
        bytes[56] = 255;
        bytes[57] = 255;
        Rig rig = done(bytes, Rig.W1, 8, Op.LESS, 7, 2, 3);
        CHECK.is("equal and greater ones clear their bits", rig.m.file(56) & 255, 0b00100010);
        CHECK.is("the next byte stays", rig.m.file(57) & 255, 255);
    }

    private static void wideKeepsWhatAWidthWouldCut() {
        for (int power = 0; power < 2; power++) {
            int width = 1 << power;
            long[] edges = edges(width);
            for (int k = 0; k < 9; k++) {
                long[] other = new long[8];
                java.util.Arrays.fill(other, edges[k]);
                int[] bytes = with(with(new int[64], 0, width, java.util.Arrays.copyOf(edges, 8)), 2, width, other);
                Rig rig = done(bytes, power + Rig.G2, 8, Op.WIDE, 4, 0, 2);
                for (int i = 0; i < 8; i++) {
                    CHECK.is("WIDE of " + edges[i] + " and " + edges[k] + ", width " + width,
                            rig.element(4, i, 2 * width), edges[i] + edges[k]);
                }
            }
        }
    }

    private static void sumIsCutToEachWidth() {
        for (int s = 0; s < SETTINGS.length; s++) {
            for (long each : edges(WIDTHS[s])) {
                long[] all = new long[MOST[s]];
                java.util.Arrays.fill(all, each);
                int[] bytes = with(new int[64], 0, WIDTHS[s], all);
                write(bytes, 56, WIDTHS[s], -each);
                Rig rig = done(bytes, SETTINGS[s], MOST[s], Op.SUM, 6, 0, 7);
                CHECK.is("SUM of " + MOST[s] + " times " + each + " and " + -each + ", setting " + SETTINGS[s],
                        rig.element(6, 0, WIDTHS[s]), cut(each * MOST[s] - each, WIDTHS[s]));
            }
        }
    }

    private static void sumWritesElementZeroAlone() {
        for (int s = 0; s < SETTINGS.length; s++) {
            int[] bytes = new int[64];
            java.util.Arrays.fill(bytes, 32, 64, 7);
            Rig rig = done(bytes, SETTINGS[s], MOST[s], Op.SUM, 5, 0, 2);
            for (int k = 32; k < 64; k++) {
                boolean isWritten = k >= 40 && k < 40 + WIDTHS[s];
                CHECK.is("setting " + SETTINGS[s] + ", byte " + k, rig.m.file(k), isWritten ? 0 : 7);
            }
        }
    }

    private static void sumTakesAnyRegisterForDAndB() {
        for (int r = 0; r < 8; r++) {
            int[] bytes = with(new int[64], 4, 1, 1, 2, 3);
            bytes[8 * r] = 50;
            int sum = r == 4 ? 50 + 2 + 3 : 1 + 2 + 3;
            CHECK.is("SUM with d " + r, done(bytes, Rig.W1 + Rig.G4, 3, Op.SUM, r, 4, 3).element(r, 0, 1),
                    sum + (r == 3 ? 50 : 0));
            CHECK.is("SUM with b " + r, done(bytes, Rig.W1 + Rig.G4, 3, Op.SUM, 3, 4, r).element(3, 0, 1), sum + 50);
        }
    }

    private static Rig slid(int s, int by) {
        int[] bytes = new int[64];
        for (int k = 0; k < 32; k++) {
            bytes[k] = k + 1;
        }
        java.util.Arrays.fill(bytes, 32, 64, 99);
        Rig rig = Rig.withFile(8, bytes);
        int from = rig.here();
        return rig.set(3, by).length(SETTINGS[s], MOST[s]).vector(Op.SLIDE, 4, 0, 3).op(Op.HALT).run(from);
    }

    private static void slideReachesTheEdgesOfEachGroup() {
        for (int s = 0; s < SETTINGS.length; s++) {
            int most = MOST[s];
            for (int by : new int[] {0, 1, -1, most - 1, most, most + 1, 1 - most, -most, -most - 1,
                Integer.MAX_VALUE, Integer.MIN_VALUE}) {
                Rig rig = slid(s, by);
                for (int i = 0; i < most; i++) {
                    long from = (long) i + by;
                    long due = 0;
                    for (int j = WIDTHS[s] - 1; j >= 0 && from >= 0 && from < most; j--) {
                        due = due * 256 + from * WIDTHS[s] + j + 1;
                    }
                    CHECK.is("setting " + SETTINGS[s] + ", SLIDE by " + by + ", element " + i,
                            rig.element(4, i, WIDTHS[s]), due);
                }
            }
        }
    }

    /** Register 0's group is both a and b; its elements are numbers around the edges of the group and of the width. */
    private static void gatherReachesTheEdgesOfEachGroup() {
        for (int s = 0; s < SETTINGS.length; s++) {
            int width = WIDTHS[s];
            int most = MOST[s];
            long high = 1L << 8 * width - 1;
            long[] indices = {most - 1, most, most + 1, 0, 1, -1, -2, high, high - 1, -most, 256 % (high * 2), -high + 1};
            for (int first = 0; first < indices.length; first++) {
                long[] b = new long[most];
                for (int i = 0; i < most; i++) {
                    b[i] = indices[(first + i) % indices.length];
                }
                Rig rig = done(with(new int[64], 0, width, b), SETTINGS[s], most, Op.GATHER, 4, 0, 0);
                for (int i = 0; i < most; i++) {
                    long index = unsigned(b[i], width);
                    long due = index < most ? cut(b[(int) index], width) : 0;
                    CHECK.is("setting " + SETTINGS[s] + ", GATHER of " + b[i] + ", element " + i,
                            rig.element(4, i, width), due);
                }
            }
        }
    }

    private static int[] seven() {
        int[] bytes = new int[64];
        java.util.Arrays.fill(bytes, 7);
        return bytes;
    }

    private static boolean isUnchanged(Rig rig, int[] bytes) {
        boolean isSo = true;
        for (int k = 0; k < 64; k++) {
            isSo &= rig.m.file(k) == (byte) bytes[k];
        }
        for (int k = 0; k < 128; k++) {
            isSo &= rig.m.memory(k) == 0;
        }
        return isSo;
    }

    private static Rig rigFor(int op, int mask, int length, boolean masked) {
        int[] bytes = seven();
        bytes[0] = mask;
        Rig rig = Rig.withFile(2, bytes);
        rig.set(3, 9).length(Rig.W1, length);
        rig.m.put(op, 6, 2, op == Op.LOADX || op < Op.LOAD ? 3 : 0, 0, masked);
        return rig.op(Op.HALT);
    }

    private static void emptyRangesDoNothing() {
        for (int op = Op.PLUS; op <= Op.LOADF; op++) {
            for (int length : new int[] {0, -1, Integer.MIN_VALUE}) {
                Rig rig = rigFor(op, 7, length, false);
                int before = rig.m.about(10);
                rig.m.go(rig.here() - 5);
                rig.m.cycles(4);
                CHECK.is("operation " + op + " of no elements comes not into the queue", rig.m.about(8), 0);
                CHECK.is("operation " + op + " of no elements is handed out", rig.m.about(1), rig.here() - 1);
                rig.m.cycles(1);
                CHECK.is("operation " + op + " of no elements has no steps", rig.m.about(10), before);
                CHECK.holds("operation " + op + " of no elements changes nothing", isUnchanged(rig, seven()));
            }
        }
    }

    private static void masksThatLeaveOutAllDoNothing() {
        for (int op = Op.PLUS; op <= Op.LOADF; op++) {
            int[] bytes = seven();
            bytes[0] = 0;
            Rig rig = rigFor(op, 0, 8, true);
            int before = rig.m.about(10);
            rig.run(rig.here() - 5);
            CHECK.is("operation " + op + " of none by the mask halts", rig.m.about(0), LaneMachine.HALTED);
            CHECK.is("operation " + op + " of none by the mask has steps", rig.m.about(10) - before, op == Op.SUM ? 1 : 8);
            CHECK.holds("operation " + op + " of none by the mask changes nothing", isUnchanged(rig, bytes));
        }
    }

    private static void masksThatLeaveOutNoneDoAll() {
        for (int op = Op.PLUS; op <= Op.LOADF; op++) {
            Rig masked = rigFor(op, 255, 8, true);
            masked.run(masked.here() - 5);
            Rig open = rigFor(op, 255, 8, false);
            open.run(open.here() - 5);
            String difference = new Snapshot(masked.m).differenceFrom(new Snapshot(open.m));
            CHECK.holds("operation " + op + " of all by the mask, but " + difference, difference.isEmpty());
        }
    }

    /** Of eight elements three are worked on, so that byte 3 of d, or byte 6 of a WIDE one, is the first that stays. */
    private static void tailsStay() {
        for (int op = Op.PLUS; op <= Op.LOADF; op++) {
            int[] bytes = seven();
            Rig rig = rigFor(op, 7, 3, false);
            rig.run(rig.here() - 5);
            int first = 48 + (op == Op.WIDE ? 6 : op == Op.LESS || op == Op.SUM ? 1 : op == Op.STORE ? 0 : 3);
            for (int k = 0; k < 64; k++) {
                boolean mayChange = k >= 48 && k < first;
                CHECK.holds("operation " + op + " of three, byte " + k, mayChange || rig.m.file(k) == bytes[k]);
            }
        }
    }
}
