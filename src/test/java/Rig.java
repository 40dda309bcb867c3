/** A machine under test, with short ways to write programs for it. */
final class Rig {
    static final int W1 = 0;
    static final int W2 = 1;
    static final int W4 = 2;
    static final int G1 = 0;
    static final int G2 = 4;
    static final int G4 = 8;

    final LaneMachine m;

    Rig(int lanes) {
        m = new LaneMachine(lanes);
    }

    /** A machine whose file holds these bytes, from byte 0 on, and whose scalars and queue are 0 and empty. */
    static Rig withFile(int lanes, int... bytes) {
        Rig rig = new Rig(lanes);
        for (int k = 0; k < bytes.length; k++) {
            rig.m.poke(k, bytes[k]);
        }
        rig.set(1, 32).configure(0, 1, W1 + G4).set(2, 1).vector(Op.LOAD, 0, 0, 2).vector(Op.LOAD, 4, 1, 2);
        rig.set(1, 0).set(2, 0).configure(0, 0, W1 + G1).op(Op.HALT);
        rig.m.go(0);
        rig.m.cycles(120);
        for (int k = 0; k < bytes.length; k++) {
            rig.m.poke(k, 0);
        }
        return rig;
    }

    Rig set(int d, int n) {
        m.put(Op.SET, d, 0, 0, n, false);
        return this;
    }

    Rig configure(int d, int a, int n) {
        m.put(Op.CONFIGURE, d, a, 0, n, false);
        return this;
    }

    /** Sets the length by way of x7. */
    Rig length(int setting, int length) {
        return set(7, length).configure(0, 7, setting);
    }

    Rig vector(int op, int d, int a, int b) {
        m.put(op, d, a, b, 0, false);
        return this;
    }

    Rig masked(int op, int d, int a, int b) {
        m.put(op, d, a, b, 0, true);
        return this;
    }

    Rig op(int op) {
        return vector(op, 0, 0, 0);
    }

    /** Where the next instruction that is put will stand. */
    int here() {
        return m.about(9);
    }

    /** Runs from an instruction on until the machine stands still; the program must end by then. */
    Rig run(int at) {
        m.go(at);
        m.cycles(200);
        return this;
    }

    int element(int r, int i, int width) {
        return number(k -> m.file(k), 8 * r + i * width, width);
    }

    int inMemory(int k, int width) {
        return number(at -> m.memory(at), k, width);
    }

    private interface Row {
        int at(int k);
    }

    private static int number(Row row, int from, int width) {
        int v = row.at(from + width - 1);
        for (int i = width - 2; i >= 0; i--) {
            v = v * 256 + (row.at(from + i) & 255);
        }
        return v;
    }
}
