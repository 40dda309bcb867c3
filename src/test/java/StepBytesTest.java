/**
 * "Terms", what a step reads and writes, seen by when it is free.
 *
 * <p>Three instructions of three units stand in the queue, in a machine of one lane: the first holds all steps of the
 * second back until it is done, and the third, the one that is looked at, names a register of the second or does not.
 * With n steps each, and three instructions that set scalars and the length ahead, the first is handed out in cycle 4
 * and has its steps in cycles 5 to 4 + n; the second has its own from cycle 5 + n on; so the third has its first step
 * in cycle 7 if it waits for nothing, in cycle 6 + n if for the first step of the second, and in 5 + 2 * n if for the
 * last.
 */
public final class StepBytesTest {
    private static final int SECOND = 2;
    private static final int INDEX = 4;
    private static final int AT_ONCE = 7;
    private static final Check CHECK = new Check("StepBytesTest");

    /** Of which register of the second instruction the third names which part. */
    private enum Part { D, A, B }

    public static void main(String[] args) {
        elementsOfUnitZero();
        elementsOfUnitOne();
        elementsOfUnitTwo();
        scalarsAreNoRegisters();
        writesOverWhatIsRead();
        readsOfWhatIsRead();
        everyInstructionAheadCounts();
        maskBytes();
        stepByStep();
        sumReadsAllElements();
        slideReadsTheElementItNames();
        gatherReadsAllOfA();
        lessWritesOneByte();
        wideWritesTwoElements();
        bytesBeyondTheLength();
        maskBytesOfEightElementsEach();
        loadxWaitsBeforeItIsHandedOut();
        CHECK.end();
    }

    private static int unit(int op) {
        return op >= Op.LOAD ? 2 : op == Op.TIMES || op == Op.SUM || op == Op.SLIDE || op == Op.GATHER ? 1 : 0;
    }

    private static int steps(int power) {
        return 8 >> power;
    }

    private static int afterTheFirst(int steps) {
        return 6 + steps;
    }

    private static int afterTheLast(int steps) {
        return 5 + 2 * steps;
    }

    /**
     * Puts the first two, of which the second writes register 2, or writes the given one. For units 0 and 2 the second
     * is a GATHER, which must wait for all that the first makes; for unit 1 it is a LOAD, onto what a LESS makes.
     */
    private static Rig heldBack(int unit, int power, int written) {
        Rig rig = new Rig(1).set(1, 0).length(power, 8);
        if (unit == 1) {
            return rig.vector(Op.LESS, written, 7, 7).vector(Op.LOAD, written, 0, 0);
        }
        int first = unit == 0 ? Op.LOAD : Op.PLUS;
        return rig.vector(first, 6, first == Op.LOAD ? 0 : 7, first == Op.LOAD ? 0 : 7).vector(Op.GATHER, written, 6, INDEX);
    }

    /** In which cycle the step with this number of the third instruction, which is number 5, is done. */
    private static int cycleOfStep(Rig rig, int step) {
        rig.m.go(0);
        rig.m.cycles(5);
        for (int cycle = 6; cycle < 60; cycle++) {
            rig.m.cycles(1);
            int place = placeOfTheThird(rig);
            boolean isGone = place < 0 && rig.m.about(1) > 5;
            if (isGone || rig.m.queue(place, 2) > step) {
                return cycle;
            }
        }
        return -1;
    }

    private static int placeOfTheThird(Rig rig) {
        for (int i = 0; i < 3; i++) {
            if (rig.m.queue(i, 0) == 5) {
                return i;
            }
        }
        return -1;
    }

    /** The registers that are not looked at are ones that nobody writes; WIDE's must lie outside the two of its d. */
    private static Rig naming(int op, Part part, int register, int power) {
        int other = op == Op.WIDE ? 7 : 5;
        int d = part == Part.D ? register : 0;
        int a = part == Part.A ? register : other;
        int b = part == Part.B ? register : other;
        return heldBack(unit(op), power, SECOND).vector(op, d, a, b).op(Op.HALT);
    }

    private static void waits(int op, Part part, int power, int due) {
        CHECK.is("operation " + op + " with " + part + " that the second writes, width " + (1 << power) + ", first step",
                cycleOfStep(naming(op, part, SECOND, power), 0), due);
    }

    private static void waitsForTheFirstStep(int op, Part part) {
        for (int power = 0; power < 3; power++) {
            waits(op, part, power, afterTheFirst(steps(power)));
        }
    }

    private static void elementsOfUnitZero() {
        for (int op : new int[] {Op.PLUS, Op.MINUS, Op.PLUSX, Op.LESS}) {
            waitsForTheFirstStep(op, Part.D);
            waitsForTheFirstStep(op, Part.A);
        }
        for (int op : new int[] {Op.PLUS, Op.MINUS, Op.LESS}) {
            waitsForTheFirstStep(op, Part.B);
        }
        for (int power = 0; power < 2; power++) {
            waits(Op.WIDE, Part.A, power, afterTheFirst(steps(power)));
            waits(Op.WIDE, Part.B, power, afterTheFirst(steps(power)));
        }
    }

    private static void elementsOfUnitOne() {
        for (Part part : Part.values()) {
            waitsForTheFirstStep(Op.TIMES, part);
        }
        waitsForTheFirstStep(Op.SUM, Part.D);
        waitsForTheFirstStep(Op.SUM, Part.B);
        waitsForTheFirstStep(Op.SLIDE, Part.D);
        waitsForTheFirstStep(Op.SLIDE, Part.A);
        waitsForTheFirstStep(Op.GATHER, Part.D);
        waitsForTheFirstStep(Op.GATHER, Part.B);
    }

    private static void elementsOfUnitTwo() {
        for (int op : new int[] {Op.LOAD, Op.STORE, Op.LOADX, Op.LOADF}) {
            waitsForTheFirstStep(op, Part.D);
        }
    }

    private static void scalarsAreNoRegisters() {
        for (int power = 0; power < 3; power++) {
            waits(Op.PLUSX, Part.B, power, AT_ONCE);
            waits(Op.LOADX, Part.A, power, AT_ONCE);
            for (int op : new int[] {Op.LOAD, Op.STORE, Op.LOADF}) {
                waits(op, Part.A, power, AT_ONCE);
                waits(op, Part.B, power, AT_ONCE);
            }
        }
        CHECK.is("SLIDE by x2", cycleOfStep(naming(Op.SLIDE, Part.B, SECOND, 0), 0), AT_ONCE);
    }

    /** The second reads its register 4, for units 0 and 2. */
    private static void writesOverWhatIsRead() {
        for (int op : new int[] {Op.PLUS, Op.MINUS, Op.PLUSX, Op.LESS, Op.LOAD, Op.LOADX, Op.LOADF}) {
            for (int power = 0; power < 3; power++) {
                CHECK.is("operation " + op + " over what the second reads, width " + (1 << power),
                        cycleOfStep(naming(op, Part.D, INDEX, power), 0), afterTheFirst(steps(power)));
            }
        }
        CHECK.is("WIDE over what the second reads", cycleOfStep(naming(Op.WIDE, Part.D, INDEX, 0), 0), afterTheFirst(8) + 1);
        for (int op : new int[] {Op.TIMES, Op.SUM, Op.SLIDE, Op.GATHER}) {
            Rig rig = new Rig(1).set(1, 0).length(Rig.W1, 8).vector(Op.LESS, 2, 7, 7).vector(Op.STORE, 2, 0, 0);
            CHECK.is("operation " + op + " over what STORE reads",
                    cycleOfStep(rig.vector(op, 2, 3, 5).op(Op.HALT), 0), afterTheFirst(8));
        }
    }

    private static void readsOfWhatIsRead() {
        for (int op : new int[] {Op.PLUS, Op.MINUS, Op.PLUSX, Op.LESS, Op.WIDE}) {
            CHECK.is("operation " + op + " with the a that the second reads",
                    cycleOfStep(naming(op, Part.A, INDEX, 0), 0), AT_ONCE);
            CHECK.is("operation " + op + " with the b that the second reads",
                    cycleOfStep(naming(op, Part.B, INDEX, 0), 0), AT_ONCE);
        }
        CHECK.is("STORE of what the second reads", cycleOfStep(naming(Op.STORE, Part.D, INDEX, 0), 0), AT_ONCE);
        CHECK.is("LOADX by what the second reads", cycleOfStep(naming(Op.LOADX, Part.B, INDEX, 0), 0), AT_ONCE);
    }

    /** The first, whose steps are in cycles 5 to 12, has something to do with the third; the second has nothing. */
    private static int behindTwo(int first, int d, int a, int third, int thirdD, int thirdA) {
        Rig rig = new Rig(1).set(1, 0).length(Rig.W1, 8).vector(first, d, a, 7).vector(Op.STORE, 6, 0, 0);
        return cycleOfStep(rig.vector(third, thirdD, thirdA, 5).op(Op.HALT), 0);
    }

    private static void everyInstructionAheadCounts() {
        CHECK.is("the first writes what the third reads", behindTwo(Op.LESS, 2, 7, Op.TIMES, 4, 2), 13);
        CHECK.is("the first writes what the third writes", behindTwo(Op.LESS, 2, 7, Op.TIMES, 2, 4), 13);
        CHECK.is("the first reads what the third writes", behindTwo(Op.GATHER, 4, 2, Op.PLUS, 2, 3), 13);
        CHECK.is("the first reads what the third reads", behindTwo(Op.GATHER, 4, 2, Op.PLUS, 3, 2), AT_ONCE);
        CHECK.is("none has to do with the third", behindTwo(Op.LESS, 2, 7, Op.TIMES, 4, 3), AT_ONCE);
    }

    private static void maskBytes() {
        for (int op = Op.PLUS; op <= Op.GATHER; op++) {
            int d = op == Op.WIDE ? 2 : 1;
            Rig open = heldBack(unit(op), 0, 0);
            open.m.put(op, d, 7, 5, 0, false);
            CHECK.is("operation " + op + " does not read the mask", cycleOfStep(open.op(Op.HALT), 0), AT_ONCE);
            Rig masked = heldBack(unit(op), 0, 0);
            masked.m.put(op, d, 7, 5, 0, true);
            CHECK.is("masked operation " + op + " reads byte 0 of the mask", cycleOfStep(masked.op(Op.HALT), 0), afterTheFirst(8));
        }
    }

    /** Each step of the third follows the same step of the second by a cycle. */
    private static void stepByStep() {
        for (int op : new int[] {Op.PLUS, Op.MINUS, Op.PLUSX, Op.LESS, Op.TIMES, Op.SLIDE, Op.STORE}) {
            Part part = op == Op.STORE ? Part.D : Part.A;
            for (int power = 0; power < 3; power++) {
                int n = steps(power);
                for (int step = 0; step < n; step++) {
                    CHECK.is("operation " + op + ", width " + (1 << power) + ", step " + step,
                            cycleOfStep(naming(op, part, SECOND, power), step), afterTheFirst(n) + step);
                }
            }
        }
    }

    private static void sumReadsAllElements() {
        for (int power = 0; power < 3; power++) {
            waits(Op.SUM, Part.A, power, afterTheLast(steps(power)));
        }
        Rig part = new Rig(1).set(1, 0).length(Rig.W1, 5).vector(Op.LESS, 2, 7, 7).vector(Op.LOAD, 2, 0, 0);
        CHECK.is("SUM of five", cycleOfStep(part.vector(Op.SUM, 0, 2, 5).op(Op.HALT), 0), afterTheLast(5));
    }

    private static int slideStep(int by, int step) {
        Rig rig = new Rig(1).set(1, by).length(Rig.W1, 8).vector(Op.LESS, 2, 7, 7).vector(Op.LOAD, 2, 0, 0);
        return cycleOfStep(rig.vector(Op.SLIDE, 0, 2, 1).op(Op.HALT), step);
    }

    private static void slideReadsTheElementItNames() {
        CHECK.is("SLIDE by 0", slideStep(0, 0), afterTheFirst(8));
        CHECK.is("SLIDE by 1, its step 0 reads element 1", slideStep(1, 0), afterTheFirst(8) + 1);
        CHECK.is("SLIDE by 7, its step 0 reads element 7", slideStep(7, 0), afterTheLast(8));
        CHECK.is("SLIDE by 7, its step 1 reads none", slideStep(7, 1), afterTheLast(8) + 1);
        CHECK.is("SLIDE by 8 reads none", slideStep(8, 0), AT_ONCE);
        CHECK.is("SLIDE by 8, its last step", slideStep(8, 7), AT_ONCE + 7);
        CHECK.is("SLIDE by -1, its step 0 reads none", slideStep(-1, 0), AT_ONCE);
        CHECK.is("SLIDE by -1, its step 1 reads element 0", slideStep(-1, 1), afterTheFirst(8));
        CHECK.is("SLIDE by -8 reads none", slideStep(-8, 7), AT_ONCE + 7);
        CHECK.is("SLIDE by the most reads none", slideStep(Integer.MAX_VALUE, 7), AT_ONCE + 7);
        CHECK.is("SLIDE by the least reads none", slideStep(Integer.MIN_VALUE, 7), AT_ONCE + 7);
        Rig none = new Rig(1).set(1, 8).length(Rig.W1, 8).vector(Op.LESS, 0, 7, 7).vector(Op.LOAD, 6, 0, 0);
        CHECK.is("SLIDE of none reads no other byte", cycleOfStep(none.vector(Op.SLIDE, 4, 2, 1).op(Op.HALT), 0), AT_ONCE);
    }

    private static void gatherReadsAllOfA() {
        for (int power = 0; power < 3; power++) {
            waits(Op.GATHER, Part.A, power, afterTheLast(steps(power)));
        }
        Rig part = new Rig(1).set(1, 0).length(Rig.W1, 5).vector(Op.LESS, 2, 7, 7).vector(Op.LOAD, 2, 0, 0);
        CHECK.is("GATHER of five", cycleOfStep(part.vector(Op.GATHER, 0, 2, 5).op(Op.HALT), 0), afterTheLast(5));
    }

    /** All eight steps write the one byte that the second's first step reads or writes. */
    private static void lessWritesOneByte() {
        for (int step = 0; step < 8; step++) {
            CHECK.is("LESS over register 2, step " + step, cycleOfStep(naming(Op.LESS, Part.D, SECOND, 0), step), afterTheFirst(8) + step);
        }
        Rig second = new Rig(1).set(1, 0).length(Rig.W1 + Rig.G2, 16).vector(Op.LOAD, 6, 0, 0).vector(Op.GATHER, 2, 6, 4);
        second.vector(Op.LESS, 3, 0, 0).op(Op.HALT);
        CHECK.is("LESS over byte 8 of a group", cycleOfStep(second, 0), afterTheFirst(16) + 8);
    }

    private static void wideWritesTwoElements() {
        int[] due = {15, 17, 19, 21, 22, 23, 24, 25};
        for (int step = 0; step < 8; step++) {
            CHECK.is("WIDE over register 2, step " + step, cycleOfStep(naming(Op.WIDE, Part.D, SECOND, 0), step), due[step]);
        }
        int[] halves = {11, 13, 14, 15};
        for (int step = 0; step < 4; step++) {
            CHECK.is("WIDE of width 2 over register 2, step " + step,
                    cycleOfStep(naming(Op.WIDE, Part.D, SECOND, 1), step), halves[step]);
        }
        Rig behind = heldBack(0, 0, 3).vector(Op.WIDE, 2, 5, 5).op(Op.HALT);
        CHECK.is("WIDE with the second's register behind, step 3", cycleOfStep(behind, 3), AT_ONCE + 3);
        Rig last = heldBack(0, 0, 3).vector(Op.WIDE, 2, 5, 5).op(Op.HALT);
        CHECK.is("WIDE with the second's register behind, step 4", cycleOfStep(last, 4), afterTheFirst(8) + 1);
    }

    /** A LESS makes byte 0 of register 3, in eight steps in cycles 5 to 12; in the group of register 2 that is element 8. */
    private static int besideElementEight(int by, int op) {
        Rig rig = new Rig(1).set(1, by).length(Rig.W1 + Rig.G2, 8).vector(Op.LESS, 3, 0, 0).vector(Op.STORE, 0, 0, 0);
        return cycleOfStep(rig.vector(op, op == Op.SUM ? 5 : 4, 2, op == Op.SLIDE ? 1 : 6).op(Op.HALT), 0);
    }

    private static void bytesBeyondTheLength() {
        CHECK.is("GATHER reads elements from vl on", besideElementEight(0, Op.GATHER), 13);
        CHECK.is("SUM reads none of them", besideElementEight(0, Op.SUM), AT_ONCE);
        CHECK.is("TIMES reads none of them", besideElementEight(0, Op.TIMES), AT_ONCE);
        CHECK.is("SLIDE by 7 reads none of them in step 0", besideElementEight(7, Op.SLIDE), AT_ONCE);
        CHECK.is("SLIDE by 8 reads one", besideElementEight(8, Op.SLIDE), 13);
        CHECK.is("SLIDE by 9 reads another", besideElementEight(9, Op.SLIDE), AT_ONCE);
    }

    /** A LESS makes the mask, byte 0 in cycles 5 to 12 and byte 1 in cycles 13 to 20. */
    private static int behindTheMask(int op, int step) {
        Rig rig = new Rig(1).set(1, 0).length(Rig.W1 + Rig.G2, 16).vector(Op.LESS, 0, 6, 6).vector(Op.STORE, 6, 0, 0);
        return cycleOfStep(rig.masked(op, 4, 2, op == Op.SLIDE ? 1 : 6).op(Op.HALT), step);
    }

    private static void maskBytesOfEightElementsEach() {
        for (int op : new int[] {Op.TIMES, Op.SLIDE, Op.GATHER}) {
            CHECK.is("masked " + op + ", step 0 reads byte 0 alone", behindTheMask(op, 0), 13);
            CHECK.is("masked " + op + ", step 7 reads byte 0 alone", behindTheMask(op, 7), 20);
            CHECK.is("masked " + op + ", step 8 reads byte 1", behindTheMask(op, 8), 21);
        }
        CHECK.is("masked SUM reads both", behindTheMask(Op.SUM, 0), 21);
    }

    private static void loadxWaitsBeforeItIsHandedOut() {
        for (int power = 0; power < 3; power++) {
            waits(Op.LOADX, Part.B, power, afterTheLast(steps(power)));
        }
        Rig rig = naming(Op.LOADX, Part.B, SECOND, 0);
        rig.m.go(0);
        rig.m.cycles(19);
        CHECK.is("LOADX is next while the second has a step", rig.m.about(1), 5);
        rig.m.cycles(1);
        CHECK.is("LOADX is handed out when it has none", rig.m.about(1), 6);
    }
}
