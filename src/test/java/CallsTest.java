/** Promises 2 to 12: what each call answers, changes and refuses. */
public final class CallsTest {
    private static final int RUNS = LaneMachine.RUNS;
    private static final int HALTED = LaneMachine.HALTED;
    private static final int TRAPPED = LaneMachine.TRAPPED;
    private static final int ILLEGAL = LaneMachine.ILLEGAL;
    private static final int NONE = LaneMachine.NONE;
    private static final Check CHECK = new Check("CallsTest");

    public static void main(String[] args) {
        putNumbersInstructions();
        putRefusesArguments();
        putRefusesStates();
        goRuns();
        goRefuses();
        resumeRunsOnFromTheStart();
        resumeRefuses();
        cyclesCount();
        pokeWritesBytes();
        limitSetsTheBound();
        limitRefuses();
        readersAnswerZeroOutside();
        aboutTellsEachThing();
        queueTellsEachThing();
        CHECK.end();
    }

    private static void putNumbersInstructions() {
        LaneMachine m = new LaneMachine(1);
        for (int op = 0; op <= 20; op++) {
            CHECK.is("put of operation " + op, m.put(op, op % 8, 7, 0, op == Op.CONFIGURE ? 10 : -op, true), op);
        }
        CHECK.is("about(9) after 21 puts", m.about(9), 21);
        for (int i = 21; i < 40; i++) {
            CHECK.is("put number " + i, m.put(Op.HALT, 0, 0, 0, Integer.MIN_VALUE, false), i);
        }
        CHECK.badState("put of a 41st", () -> m.put(Op.HALT, 0, 0, 0, 0, false));
        CHECK.badArgument("wrong put of a 41st", () -> m.put(21, 0, 0, 0, 0, false));
        CHECK.is("about(9) after a refused put", m.about(9), 40);
    }

    private static void putRefusesArguments() {
        LaneMachine m = new LaneMachine(1);
        for (int wrong : new int[] {-1, 21, 22, Integer.MIN_VALUE, Integer.MAX_VALUE}) {
            CHECK.badArgument("put of operation " + wrong, () -> m.put(wrong, 0, 0, 0, 0, false));
        }
        for (int wrong : new int[] {-1, 8, 9, Integer.MIN_VALUE, Integer.MAX_VALUE}) {
            CHECK.badArgument("put with d " + wrong, () -> m.put(Op.SET, wrong, 0, 0, 0, false));
            CHECK.badArgument("put with a " + wrong, () -> m.put(Op.HALT, 0, wrong, 0, 0, false));
            CHECK.badArgument("put with b " + wrong, () -> m.put(Op.PLUS, 0, 0, wrong, 0, true));
        }
        for (int wrong : new int[] {-4, -1, 3, 7, 11, 12, Integer.MIN_VALUE, Integer.MAX_VALUE}) {
            CHECK.badArgument("put of CONFIGURE " + wrong, () -> m.put(Op.CONFIGURE, 0, 0, 0, wrong, false));
        }
        CHECK.is("about(9) after refused puts", m.about(9), 0);
        int number = 0;
        for (int n : new int[] {0, 1, 2, 4, 5, 6, 8, 9, 10}) {
            CHECK.is("put of CONFIGURE " + n, m.put(Op.CONFIGURE, 0, 0, 0, n, false), number++);
        }
        CHECK.is("put of SET 3", m.put(Op.SET, 1, 0, 0, 3, false), number);
    }

    private static void putRefusesStates() {
        Rig rig = new Rig(1).length(Rig.W1, 8).vector(Op.PLUS, 1, 1, 1).op(Op.HALT);
        rig.m.go(0);
        CHECK.badState("put while it runs", () -> rig.m.put(Op.HALT, 0, 0, 0, 0, false));
        CHECK.badArgument("wrong put while it runs", () -> rig.m.put(-1, 0, 0, 0, 0, false));
        rig.m.cycles(4);
        CHECK.is("halted with a queue", rig.m.about(0) * 10 + rig.m.about(8), 11);
        CHECK.is("put while the queue is not empty", rig.m.put(Op.HALT, 0, 0, 0, 0, false), 4);
    }

    private static void goRuns() {
        Rig rig = new Rig(1).set(1, 5).set(1, 6).op(Op.HALT);
        CHECK.is("go(1)", rig.m.go(1), 1);
        CHECK.is("it runs", rig.m.about(0), RUNS);
        CHECK.is("1 is next", rig.m.about(1), 1);
        CHECK.is("nothing is done yet", rig.m.scalar(1), 0);
        rig.m.cycles(1);
        CHECK.is("x1 from instruction 1", rig.m.scalar(1), 6);
        rig.m.cycles(1);
        CHECK.is("halted", rig.m.about(0), HALTED);
        CHECK.is("HALT stays next", rig.m.about(1), 2);
        CHECK.is("go(0) of a halted one", rig.m.go(0), 0);
        rig.m.cycles(1);
        CHECK.is("x1 from instruction 0", rig.m.scalar(1), 5);
    }

    private static void goRefuses() {
        Rig rig = new Rig(1).length(Rig.W1, 8).vector(Op.PLUS, 1, 1, 1).op(Op.HALT);
        for (int wrong : new int[] {-1, 4, 40, Integer.MIN_VALUE, Integer.MAX_VALUE}) {
            CHECK.badArgument("go(" + wrong + ")", () -> rig.m.go(wrong));
        }
        CHECK.is("a refused go leaves it halted", rig.m.about(0), HALTED);
        CHECK.is("go(3)", rig.m.go(3), 3);
        CHECK.badState("go while it runs", () -> rig.m.go(0));
        CHECK.badArgument("wrong go while it runs", () -> rig.m.go(4));
        rig.m.cycles(1);
        rig.m.go(0);
        rig.m.cycles(4);
        CHECK.badState("go while the queue is not empty", () -> rig.m.go(0));
        CHECK.badArgument("wrong go while the queue is not empty", () -> rig.m.go(-1));
        rig.m.cycles(6);
        CHECK.badState("go one cycle too early", () -> rig.m.go(0));
        rig.m.cycles(1);
        CHECK.is("go when the queue is empty", rig.m.go(0), 0);
    }

    /** Loads eight bytes from place 0 on while the bound is 5. */
    private static Rig trappedAtFive() {
        Rig rig = new Rig(2).set(1, 1).length(Rig.W1, 8).vector(Op.LOAD, 2, 0, 1).op(Op.HALT);
        rig.m.limit(5);
        rig.m.go(0);
        rig.m.cycles(4);
        return rig;
    }

    private static void resumeRunsOnFromTheStart() {
        Rig rig = trappedAtFive();
        rig.m.cycles(3);
        CHECK.is("trapped", rig.m.about(0), TRAPPED);
        rig.m.limit(7);
        CHECK.is("resume()", rig.m.resume(), 5);
        CHECK.is("it runs", rig.m.about(0), RUNS);
        CHECK.is("the start stays", rig.m.about(5), 5);
        CHECK.is("the instruction stays next", rig.m.about(1), 3);
        rig.m.cycles(1);
        CHECK.is("trapped further on", rig.m.about(0) * 10 + rig.m.about(5), 27);
        CHECK.is("steps of what is handed out", rig.m.queue(0, 1), 2);
        rig.m.cycles(1);
        CHECK.is("resume() without a better bound", rig.m.resume(), 7);
        rig.m.cycles(1);
        CHECK.is("trapped there again", rig.m.about(0) * 10 + rig.m.about(5), 27);
        CHECK.is("nothing was handed out", rig.m.about(8), 0);
        rig.m.limit(8);
        CHECK.is("resume() at the last", rig.m.resume(), 7);
        rig.m.cycles(3);
        CHECK.is("halted at the end", rig.m.about(0), HALTED);
        CHECK.is("steps in all", rig.m.about(10), 8);
    }

    private static void resumeRefuses() {
        Rig rig = trappedAtFive();
        CHECK.is("trapped with a queue", rig.m.about(0) * 10 + rig.m.about(8), 21);
        CHECK.badState("resume while the queue is not empty", rig.m::resume);
        rig.m.cycles(3);
        CHECK.is("resume()", rig.m.resume(), 5);
        CHECK.badState("resume while it runs", rig.m::resume);
        rig.m.cycles(1);
        CHECK.is("go of a trapped one", rig.m.go(4), 4);
        CHECK.is("go sets the start to 0", rig.m.about(5), 0);
        rig.m.cycles(1);
        CHECK.badState("resume of a halted one", rig.m::resume);
        rig.vector(Op.SLIDE, 1, 1, 0);
        rig.m.go(5);
        rig.m.cycles(1);
        CHECK.is("illegal", rig.m.about(0), ILLEGAL);
        CHECK.badState("resume of an illegal one", rig.m::resume);
        CHECK.is("go of an illegal one", rig.m.go(4), 4);
    }

    private static void cyclesCount() {
        LaneMachine m = new LaneMachine(1);
        CHECK.is("cycles(1)", m.cycles(1), 1);
        CHECK.is("cycles(200)", m.cycles(200), 201);
        for (int wrong : new int[] {0, -1, 201, Integer.MIN_VALUE, Integer.MAX_VALUE}) {
            CHECK.badArgument("cycles(" + wrong + ")", () -> m.cycles(wrong));
        }
        CHECK.is("about(7) after refused ones", m.about(7), 201);
        Rig rig = new Rig(1);
        for (int i = 0; i < 10; i++) {
            rig.m.put(Op.ADDN, 1, 1, 0, 1, false);
        }
        rig.m.go(0);
        rig.m.cycles(7);
        CHECK.is("one scalar instruction a cycle", rig.m.scalar(1), 7);
    }

    private static void pokeWritesBytes() {
        LaneMachine m = new LaneMachine(1);
        int[] values = {-128, -1, 0, 1, 127, 128, 200, 255};
        int[] due = {-128, -1, 0, 1, 127, -128, -56, -1};
        for (int i = 0; i < values.length; i++) {
            CHECK.holds("poke of " + values[i], m.poke(127 - i, values[i]));
            CHECK.is("memory after poke of " + values[i], m.memory(127 - i), due[i]);
        }
        CHECK.holds("poke at 0", m.poke(0, 9));
        CHECK.is("memory(0)", m.memory(0), 9);
        CHECK.is("memory(1)", m.memory(1), 0);
        for (int wrong : new int[] {-1, 128, Integer.MIN_VALUE, Integer.MAX_VALUE}) {
            CHECK.badArgument("poke(" + wrong + ", 0)", () -> m.poke(wrong, 0));
        }
        for (int wrong : new int[] {-129, 256, Integer.MIN_VALUE, Integer.MAX_VALUE}) {
            CHECK.badArgument("poke(0, " + wrong + ")", () -> m.poke(0, wrong));
        }
        CHECK.is("memory(0) after refused ones", m.memory(0), 9);
        m.limit(0);
        CHECK.holds("poke beyond the bound", m.poke(5, 5));
        m.put(Op.HALT, 0, 0, 0, 0, false);
        m.go(0);
        CHECK.holds("poke while it runs", m.poke(6, 6));
        CHECK.is("memory after both", m.memory(5) * 10 + m.memory(6), 56);
    }

    private static void limitSetsTheBound() {
        LaneMachine m = new LaneMachine(1);
        for (int n : new int[] {0, 1, 64, 127, 128}) {
            CHECK.holds("limit(" + n + ")", m.limit(n));
            CHECK.is("about(6) after limit(" + n + ")", m.about(6), n);
        }
        for (int wrong : new int[] {-1, 129, Integer.MIN_VALUE, Integer.MAX_VALUE}) {
            CHECK.badArgument("limit(" + wrong + ")", () -> m.limit(wrong));
        }
        CHECK.is("about(6) after refused ones", m.about(6), 128);
    }

    private static void limitRefuses() {
        Rig rig = trappedAtFive();
        CHECK.badState("limit while the queue is not empty", () -> rig.m.limit(9));
        CHECK.badArgument("wrong limit while the queue is not empty", () -> rig.m.limit(-1));
        rig.m.cycles(3);
        CHECK.holds("limit of a trapped one", rig.m.limit(9));
        rig.m.resume();
        CHECK.badState("limit while it runs", () -> rig.m.limit(3));
        CHECK.badArgument("wrong limit while it runs", () -> rig.m.limit(129));
        CHECK.is("the bound", rig.m.about(6), 9);
    }

    private static void readersAnswerZeroOutside() {
        Rig rig = Rig.withFile(8, 1, 2, 3);
        for (int wrong : new int[] {-1, 8, Integer.MIN_VALUE, Integer.MAX_VALUE}) {
            CHECK.is("scalar(" + wrong + ")", rig.m.scalar(wrong), 0);
        }
        for (int wrong : new int[] {-1, 64, 128, Integer.MIN_VALUE, Integer.MAX_VALUE}) {
            CHECK.is("file(" + wrong + ")", rig.m.file(wrong), 0);
        }
        for (int wrong : new int[] {-1, 128, 256, Integer.MIN_VALUE, Integer.MAX_VALUE}) {
            CHECK.is("memory(" + wrong + ")", rig.m.memory(wrong), 0);
        }
        int[] bytes = new int[64];
        for (int k = 0; k < 64; k++) {
            bytes[k] = 5 * k - 128;
        }
        Rig full = Rig.withFile(8, bytes);
        for (int k = 0; k < 64; k++) {
            CHECK.is("file(" + k + ")", full.m.file(k), (byte) (5 * k - 128));
        }
        for (int i = 1; i < 8; i++) {
            rig.set(i, i - 900);
        }
        rig.run(rig.here() - 7);
        for (int i = 1; i < 8; i++) {
            CHECK.is("scalar(" + i + ")", rig.m.scalar(i), i - 900);
        }
    }

    private static void aboutTellsEachThing() {
        Rig rig = new Rig(3).set(1, 1).length(Rig.W2 + Rig.G4, 9).vector(Op.PLUS, 4, 4, 4);
        rig.vector(Op.STORE, 0, 0, 7).op(Op.HALT);
        rig.m.limit(20);
        rig.m.go(0);
        rig.m.cycles(5);
        int[] due = {TRAPPED, 4, 2, 4, 9, 3, 20, 5, 2, 6, 3};
        for (int what = 0; what < due.length; what++) {
            CHECK.is("about(" + what + ")", rig.m.about(what), due[what]);
        }
        for (int wrong : new int[] {-1, 11, 12, Integer.MIN_VALUE, Integer.MAX_VALUE}) {
            CHECK.is("about(" + wrong + ")", rig.m.about(wrong), NONE);
        }
        rig.m.cycles(1);
        CHECK.is("steps after one cycle more", rig.m.about(10), 9);
        rig.m.cycles(9);
        CHECK.is("steps in all", rig.m.about(10), 12);
        CHECK.is("nothing left in the queue", rig.m.about(8), 0);
    }

    private static void queueTellsEachThing() {
        Rig rig = new Rig(3).length(Rig.W1 + Rig.G2, 16).vector(Op.PLUS, 2, 0, 0).vector(Op.TIMES, 4, 0, 0);
        rig.vector(Op.SUM, 6, 4, 4).op(Op.HALT);
        rig.m.go(0);
        rig.m.cycles(5);
        int[][] due = {{2, 16, 6}, {3, 16, 3}, {4, 1, 0}};
        for (int i = 0; i < 3; i++) {
            for (int what = 0; what < 3; what++) {
                CHECK.is("queue(" + i + ", " + what + ")", rig.m.queue(i, what), due[i][what]);
            }
        }
        for (int wrong : new int[] {-1, 3, 4, 5, Integer.MIN_VALUE, Integer.MAX_VALUE}) {
            CHECK.is("queue(" + wrong + ", 0)", rig.m.queue(wrong, 0), NONE);
        }
        for (int wrong : new int[] {-1, 3, Integer.MIN_VALUE, Integer.MAX_VALUE}) {
            CHECK.is("queue(0, " + wrong + ")", rig.m.queue(0, wrong), NONE);
        }
    }
}
