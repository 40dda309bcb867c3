/** Promises 4 to 7, 10 and 11 by loads and stores, and by where they stop and go on. */
public final class MemoryTest {
    private static final int HALTED = LaneMachine.HALTED;
    private static final int TRAPPED = LaneMachine.TRAPPED;
    private static final Check CHECK = new Check("MemoryTest");

    public static void main(String[] args) {
        loadAndStoreByStrides();
        widthsInMemory();
        storesComeInOrder();
        loadReadsWhenItsStepIsDone();
        placesWrap();
        loadxAddsIndices();
        loadxOverItsIndices();
        boundsOfElements();
        trapsAtTheBadOne();
        trapsAtTheFirst();
        storeTrapsAndGoesOn();
        masksHideBadOnes();
        trapWaitsForWhatIsAhead();
        loadxTraps();
        loadfIsCut();
        loadfTrapsAtZero();
        loadfMaskedIsCut();
        cutLengthLeavesTheQueueAlone();
        limitInstructionBindsLoads();
        CHECK.end();
    }

    private static Rig withMemory(int lanes) {
        Rig rig = new Rig(lanes);
        for (int k = 0; k < 128; k++) {
            rig.m.poke(k, k + 1);
        }
        return rig;
    }

    private static void state(String name, Rig rig, int state, int next, int start) {
        CHECK.is(name + ": state", rig.m.about(0), state);
        CHECK.is(name + ": next", rig.m.about(1), next);
        CHECK.is(name + ": start", rig.m.about(5), start);
    }

    private static void loadAndStoreByStrides() {
        Rig rig = withMemory(3).set(1, 10).set(2, 3).set(3, -2).length(Rig.W1, 8);
        rig.vector(Op.LOAD, 1, 1, 2).vector(Op.LOAD, 2, 1, 0).set(4, 100).vector(Op.STORE, 1, 4, 3).set(5, 8);
        rig.vector(Op.LOADF, 3, 5, 3).op(Op.HALT).run(0);
        for (int i = 0; i < 8; i++) {
            CHECK.is("LOAD by 3, " + i, rig.m.file(8 + i), 11 + 3 * i);
            CHECK.is("LOAD by 0, " + i, rig.m.file(16 + i), 11);
            CHECK.is("STORE by -2, " + i, rig.m.memory(100 - 2 * i), 11 + 3 * i);
            CHECK.is("between them, " + i, rig.m.memory(101 - 2 * i), 102 - 2 * i);
        }
        int[] due = {9, 7, 5, 3, 1, 0, 0, 0};
        for (int i = 0; i < 8; i++) {
            CHECK.is("LOADF by -2, " + i, rig.m.file(24 + i), due[i]);
        }
        CHECK.is("LOADF is cut below 0", rig.m.about(4), 5);
    }

    private static void widthsInMemory() {
        Rig rig = withMemory(2).set(1, 2).set(2, 5).length(Rig.W2 + Rig.G2, 4).vector(Op.LOAD, 2, 1, 2).op(Op.HALT).run(0);
        int[] due = {0x0403, 0x0908, 0x0e0d, 0x1312};
        for (int i = 0; i < 4; i++) {
            CHECK.is("LOAD of width 2, " + i, rig.element(2, i, 2), due[i]);
        }
        Rig whole = withMemory(2).set(1, 121).set(2, -4).length(Rig.W4, 2).vector(Op.LOAD, 2, 1, 2).set(3, 7);
        whole.vector(Op.STORE, 2, 3, 2).set(3, 8).vector(Op.STORE, 2, 3, 1).op(Op.HALT).run(0);
        CHECK.is("LOAD of width 4, 0", whole.element(2, 0, 4), 0x7d7c7b7a);
        CHECK.is("LOAD of width 4, 1", whole.element(2, 1, 4), 0x79787776);
        CHECK.is("STORE of width 4, 1", whole.inMemory(3, 4), 0x79787776);
        CHECK.is("STORE beyond the bound is trapped", whole.m.about(0), TRAPPED);
        CHECK.is("STORE of width 4 ahead of it", whole.inMemory(8, 4), 0x7d7c7b7a);
    }

    private static void storesComeInOrder() {
        Rig rig = withMemory(8).set(1, 20).length(Rig.W1, 8).set(2, 1).vector(Op.LOAD, 1, 0, 2);
        rig.vector(Op.STORE, 1, 1, 0).op(Op.HALT).run(0);
        CHECK.is("the last of eight onto one place", rig.m.memory(20), 8);
        Rig over = withMemory(8).set(1, 20).length(Rig.W2, 4).set(2, 1).set(3, 2).vector(Op.LOAD, 1, 0, 3);
        over.vector(Op.STORE, 1, 1, 2).op(Op.HALT).run(0);
        int[] due = {1, 3, 5, 7, 8, 26};
        for (int i = 0; i < due.length; i++) {
            CHECK.is("pairs a byte apart, " + i, over.m.memory(20 + i), due[i]);
        }
    }

    private static void loadReadsWhenItsStepIsDone() {
        Rig rig = withMemory(1).set(1, 1).length(Rig.W1, 8).vector(Op.LOAD, 2, 0, 1).op(Op.HALT);
        rig.m.go(0);
        rig.m.cycles(6);
        rig.m.poke(0, 99);
        rig.m.poke(2, 77);
        rig.m.cycles(10);
        CHECK.is("element 0 was loaded before", rig.m.file(16), 1);
        CHECK.is("element 2 was loaded after", rig.m.file(18), 77);
    }

    private static void placesWrap() {
        Rig rig = withMemory(2).set(1, 5).set(2, 1 << 30).length(Rig.W1, 8).vector(Op.LOAD, 2, 1, 2).op(Op.HALT).run(0);
        state("LOAD by 2 to the 30th", rig, TRAPPED, 4, 1);
        CHECK.is("its element 0", rig.m.file(16), 6);
        Rig least = withMemory(2).set(1, 9).set(2, Integer.MIN_VALUE).length(Rig.W1, 1).vector(Op.LOAD, 2, 1, 2);
        least.op(Op.HALT).run(0);
        CHECK.is("one element by the least", least.m.file(16), 9 + 1);
        Rig wraps = withMemory(2).set(1, 5).set(2, 1 << 30).length(Rig.W1, 8).set(6, 17);
        wraps.vector(Op.PLUSX, 0, 0, 6).masked(Op.LOAD, 2, 1, 2).op(Op.HALT).run(0);
        state("elements 0 and 4 of a mask byte 17", wraps, HALTED, 7, 0);
        CHECK.is("element 0", wraps.m.file(16), 6);
        CHECK.is("element 4, whose place wraps", wraps.m.file(20), 6);
        Rig high = withMemory(2).set(1, Integer.MAX_VALUE).length(Rig.W4, 1).vector(Op.LOAD, 2, 1, 0).op(Op.HALT).run(0);
        state("LOAD from the highest place", high, TRAPPED, 3, 0);
        Rig low = withMemory(2).set(1, Integer.MIN_VALUE).length(Rig.W4, 1).vector(Op.STORE, 2, 1, 0).op(Op.HALT).run(0);
        state("STORE to the lowest place", low, TRAPPED, 3, 0);
    }

    private static Rig indexed(int width, int length, int xa, int... bytes) {
        Rig rig = Rig.withFile(2, bytes);
        for (int k = 0; k < 128; k++) {
            rig.m.poke(k, k + 1);
        }
        int from = rig.here();
        return rig.set(3, xa).length(width, length).vector(Op.LOADX, 4, 3, 0).op(Op.HALT).run(from);
    }

    private static void loadxAddsIndices() {
        Rig rig = indexed(Rig.W1, 4, 3, 7, 0, 100, 7);
        int[] due = {11, 4, 104, 11, 0};
        for (int i = 0; i < due.length; i++) {
            CHECK.is("LOADX, " + i, rig.m.file(32 + i), due[i]);
        }
        Rig bare = indexed(Rig.W1, 2, -200, 255, 200);
        CHECK.is("LOADX without sign, 0", bare.m.file(32), 56);
        CHECK.is("LOADX without sign, 1", bare.m.file(33), 1);
        Rig half = indexed(Rig.W2, 2, -65530, 0xff, 0xff, 0xfa, 0xff);
        CHECK.is("LOADX of width 2, 0", half.element(4, 0, 2), 0x0706);
        CHECK.is("LOADX of width 2, 1", half.element(4, 1, 2), 0x0201);
        Rig whole = indexed(Rig.W4, 2, 9, 0xff, 0xff, 0xff, 0xff, 0xf7, 0xff, 0xff, 0xff);
        CHECK.is("LOADX of width 4 wraps, 0", whole.element(4, 0, 4), 0x0c0b0a09);
        CHECK.is("LOADX of width 4 wraps, 1", whole.element(4, 1, 4), 0x04030201);
    }

    private static void loadxOverItsIndices() {
        Rig rig = Rig.withFile(1, 0, 0, 0, 0, 0, 0, 0, 0, 3, 2, 1, 0);
        for (int k = 0; k < 8; k++) {
            rig.m.poke(k, 50 + k);
        }
        int from = rig.here();
        rig.length(Rig.W1, 4).vector(Op.LOADX, 1, 0, 1).op(Op.HALT).run(from);
        for (int i = 0; i < 4; i++) {
            CHECK.is("LOADX over its indices, " + i, rig.m.file(8 + i), 53 - i);
        }
    }

    /** Whether a LOAD of one element from this place traps. */
    private static boolean traps(int setting, int bound, int place) {
        Rig rig = new Rig(1).set(1, place).length(setting, 1).vector(Op.LOAD, 4, 1, 0).op(Op.HALT);
        rig.m.limit(bound);
        return rig.run(0).m.about(0) == TRAPPED;
    }

    private static void boundsOfElements() {
        int[] settings = {Rig.W1, Rig.W2, Rig.W4};
        int[] widths = {1, 2, 4};
        for (int bound : new int[] {0, 1, 2, 3, 4, 5, 60, 127, 128}) {
            for (int i = 0; i < 3; i++) {
                for (int place = bound - 6; place <= bound + 1; place++) {
                    boolean isBad = place < 0 || place + widths[i] > bound;
                    CHECK.holds("bound " + bound + ", width " + widths[i] + ", place " + place + " bad: " + isBad,
                            traps(settings[i], bound, place) == isBad);
                }
            }
        }
        for (int i = 0; i < 3; i++) {
            CHECK.holds("place -1", traps(settings[i], 128, -1));
            CHECK.holds("place 0", !traps(settings[i], 128, 0));
        }
    }

    private static void trapsAtTheBadOne() {
        Rig rig = withMemory(2).set(1, 2).length(Rig.W1, 8).vector(Op.LOAD, 2, 0, 1).set(5, 5).op(Op.HALT);
        rig.m.limit(7);
        rig.m.go(0);
        rig.m.cycles(4);
        state("handed out", rig, TRAPPED, 3, 4);
        CHECK.is("for the elements ahead", rig.m.queue(0, 1), 4);
        CHECK.is("vl stays", rig.m.about(4), 8);
        rig.m.cycles(2);
        CHECK.is("they are done", rig.m.about(8) * 10 + rig.m.about(10), 4);
        CHECK.is("element 3", rig.m.file(19), 7);
        CHECK.is("element 4", rig.m.file(20), 0);
        rig.m.limit(128);
        CHECK.is("resume()", rig.m.resume(), 4);
        rig.m.cycles(1);
        state("handed out again", rig, LaneMachine.RUNS, 4, 0);
        CHECK.is("for the elements left", rig.m.queue(0, 1), 4);
        CHECK.is("none of them is done", rig.m.queue(0, 2), 0);
        rig.m.cycles(5);
        state("at the end", rig, HALTED, 5, 0);
        for (int i = 0; i < 8; i++) {
            CHECK.is("element " + i, rig.m.file(16 + i), 1 + 2 * i);
        }
        CHECK.is("steps in all", rig.m.about(10), 8);
        CHECK.is("x5", rig.m.scalar(5), 5);
    }

    private static void trapsAtTheFirst() {
        for (int op : new int[] {Op.LOAD, Op.STORE, Op.LOADX, Op.LOADF}) {
            Rig rig = withMemory(2).set(1, 128).length(Rig.W1, 8).vector(op, 2, 1, 5).op(Op.HALT);
            rig.m.go(0);
            rig.m.cycles(4);
            state("operation " + op, rig, TRAPPED, 3, 0);
            CHECK.is("queue of operation " + op, rig.m.about(8), 0);
            rig.m.cycles(5);
            state("operation " + op + " later", rig, TRAPPED, 3, 0);
            CHECK.is("resume() of operation " + op, rig.m.resume(), 0);
        }
    }

    private static void storeTrapsAndGoesOn() {
        Rig rig = withMemory(3).set(1, 1).length(Rig.W1, 8).vector(Op.LOAD, 2, 0, 1).set(3, 60);
        rig.vector(Op.STORE, 2, 3, 1).op(Op.HALT);
        rig.m.limit(65);
        rig.m.go(0);
        rig.m.cycles(30);
        state("STORE", rig, TRAPPED, 5, 5);
        CHECK.is("place 64", rig.m.memory(64), 5);
        CHECK.is("place 65", rig.m.memory(65), 66);
        rig.m.poke(60, 0);
        rig.m.limit(128);
        CHECK.is("resume()", rig.m.resume(), 5);
        rig.m.cycles(20);
        CHECK.is("place 65 after it", rig.m.memory(65), 6);
        CHECK.is("place 67 after it", rig.m.memory(67), 8);
        CHECK.is("place 60 is not stored again", rig.m.memory(60), 0);
        state("at the end", rig, HALTED, 6, 0);
    }

    private static void masksHideBadOnes() {
        Rig rig = withMemory(2).set(1, 1).set(3, 120).set(5, 0b01100101).length(Rig.W1 + Rig.G2, 16);
        rig.vector(Op.PLUSX, 0, 0, 5).masked(Op.LOAD, 2, 3, 1).op(Op.HALT).run(0);
        state("bit 8 of the mask is set", rig, TRAPPED, 6, 8);
        CHECK.is("element 0", rig.m.file(16), 121);
        CHECK.is("element 1", rig.m.file(17), 0);
        CHECK.is("element 2", rig.m.file(18), 123);
        Rig none = withMemory(2).set(1, 1).set(3, -99).length(Rig.W1, 8).masked(Op.STORE, 2, 3, 1).op(Op.HALT);
        none.m.go(0);
        none.m.cycles(5);
        CHECK.is("a mask of 0 has steps", none.m.queue(0, 1), 8);
        none.m.cycles(10);
        state("a mask of 0 has no bad one", none, HALTED, 5, 0);
        Rig later = withMemory(2).set(1, -1).set(3, 2).set(5, 0b11000111).length(Rig.W1, 8);
        later.vector(Op.PLUSX, 0, 0, 5).masked(Op.LOAD, 2, 3, 1).op(Op.HALT).run(0);
        state("elements 3 to 5 are bad but left out", later, TRAPPED, 6, 6);
        CHECK.is("steps ahead of it", later.m.about(10), 8 + 6);
    }

    private static void trapWaitsForWhatIsAhead() {
        Rig rig = withMemory(1).set(1, 126).set(2, 1).length(Rig.W1, 8).vector(Op.PLUS, 1, 2, 3);
        rig.vector(Op.LOAD, 4, 1, 2).set(6, 6).op(Op.HALT);
        rig.m.go(0);
        rig.m.cycles(6);
        state("LOAD behind PLUS", rig, TRAPPED, 5, 2);
        CHECK.is("both are in the queue", rig.m.about(8), 2);
        rig.m.cycles(2);
        CHECK.is("LOAD is done, PLUS is not", rig.m.about(8) * 10 + rig.m.queue(0, 2), 13);
        CHECK.badState("resume before PLUS is done", rig.m::resume);
        CHECK.badState("go before PLUS is done", () -> rig.m.go(0));
        CHECK.badState("limit before PLUS is done", () -> rig.m.limit(1));
        rig.m.cycles(5);
        CHECK.is("resume()", rig.m.resume(), 2);
        CHECK.is("nothing behind was done", rig.m.scalar(6), 0);
    }

    private static void loadxTraps() {
        Rig rig = indexed(Rig.W1, 8, 100, 0, 27, 5, 28, 1);
        state("LOADX", rig, TRAPPED, rig.here() - 2, 3);
        CHECK.is("element 1", rig.m.file(33), -128);
        CHECK.is("element 2", rig.m.file(34), 106);
        CHECK.is("element 3", rig.m.file(35), 0);
        Rig wide = indexed(Rig.W2, 3, 0, 126, 0, 127, 0, 0, 0);
        state("LOADX of width 2", wide, TRAPPED, wide.here() - 2, 1);
    }

    private static void loadfIsCut() {
        Rig rig = withMemory(2).set(1, 1).set(3, 123).length(Rig.W1 + Rig.G2, 16).vector(Op.LOADF, 2, 3, 1);
        rig.vector(Op.PLUS, 4, 2, 2).op(Op.HALT);
        rig.m.go(0);
        rig.m.cycles(5);
        state("LOADF", rig, LaneMachine.RUNS, 5, 0);
        CHECK.is("vl", rig.m.about(4), 5);
        CHECK.is("its steps", rig.m.queue(0, 1), 5);
        rig.m.cycles(1);
        CHECK.is("steps of PLUS", rig.m.queue(1, 1), 5);
        rig.m.cycles(10);
        CHECK.is("element 4", rig.m.file(20), -128);
        CHECK.is("element 5", rig.m.file(21), 0);
        CHECK.is("element 3 of PLUS", rig.m.file(35), -2);
        Rig fine = withMemory(2).set(1, 1).set(3, 120).length(Rig.W1, 8).vector(Op.LOADF, 2, 3, 1).op(Op.HALT).run(0);
        state("LOADF of good ones", fine, HALTED, 5, 0);
        CHECK.is("vl stays", fine.m.about(4), 8);
        Rig one = withMemory(2).set(1, 1).set(3, 127).length(Rig.W1, 8).vector(Op.LOADF, 2, 3, 1).op(Op.HALT).run(0);
        state("LOADF cut to one", one, HALTED, 5, 0);
        CHECK.is("vl of one", one.m.about(4), 1);
    }

    private static void loadfTrapsAtZero() {
        Rig rig = withMemory(2).set(1, 1).set(3, 50).length(Rig.W1, 8).vector(Op.LOADF, 2, 3, 1).op(Op.HALT);
        rig.m.limit(50);
        rig.run(0);
        state("LOADF with a bad first", rig, TRAPPED, 4, 0);
        CHECK.is("vl stays", rig.m.about(4), 8);
        rig.m.limit(53);
        CHECK.is("resume()", rig.m.resume(), 0);
        rig.m.cycles(10);
        state("LOADF with three good ones", rig, HALTED, 5, 0);
        CHECK.is("vl is cut", rig.m.about(4), 3);
        CHECK.is("element 2", rig.m.file(18), 53);
    }

    private static void loadfMaskedIsCut() {
        Rig rig = withMemory(2).set(1, 1).set(3, 200).set(5, 0b11101000).length(Rig.W1, 8).vector(Op.PLUSX, 0, 0, 5);
        rig.masked(Op.LOADF, 2, 3, 1).op(Op.HALT).run(0);
        state("LOADF whose first is number 3", rig, HALTED, 7, 0);
        CHECK.is("vl", rig.m.about(4), 3);
        CHECK.is("steps in all", rig.m.about(10), 8 + 3);
        CHECK.is("element 0", rig.m.file(16), 0);
    }

    /** What was handed out before keeps the length of then. */
    private static void cutLengthLeavesTheQueueAlone() {
        Rig rig = withMemory(1).set(1, 1).set(3, 125).length(Rig.W1, 8).vector(Op.PLUSX, 1, 1, 1).vector(Op.SUM, 6, 1, 7);
        rig.vector(Op.LOADF, 2, 3, 1).op(Op.HALT);
        rig.m.go(0);
        rig.m.cycles(7);
        CHECK.is("vl", rig.m.about(4), 3);
        CHECK.is("steps of PLUSX", rig.m.queue(0, 1), 8);
        CHECK.is("steps of LOADF", rig.m.queue(2, 1), 3);
        rig.m.cycles(20);
        CHECK.is("element 7 of PLUSX", rig.m.file(15), 1);
        CHECK.is("SUM has all eight", rig.m.file(48), 8);
    }

    private static void limitInstructionBindsLoads() {
        Rig rig = withMemory(2).set(1, 1).set(3, 4).length(Rig.W1, 8).vector(Op.LIMIT, 0, 3, 0).vector(Op.LOAD, 2, 0, 1);
        rig.op(Op.HALT).run(0);
        state("LOAD under a bound of 4", rig, TRAPPED, 5, 4);
        CHECK.is("the bound", rig.m.about(6), 4);
    }
}
