/** "Terms", part 3 of a cycle: the queue with none and with 4 in it, and each waiting that is named there. */
public final class WaitingTest {
    private static final int NONE = LaneMachine.NONE;
    private static final int RUNS = LaneMachine.RUNS;
    private static final int HALTED = LaneMachine.HALTED;
    private static final int TRAPPED = LaneMachine.TRAPPED;
    private static final Check CHECK = new Check("WaitingTest");

    public static void main(String[] args) {
        anEmptyQueueHasNone();
        aFullQueueHasFour();
        everyVectorOneWaitsForAPlace();
        noPlaceIsNeededForScalars();
        firstConfigureAndLimitWaitForEachUnit();
        firstConfigureAndLimitDoNotWaitForNothing();
        memoryOnesWaitWhateverTheyMoveWhere();
        aTrapWaitsForAPlace();
        aTrapWaitsForTheOtherMemoryOne();
        aTrapWaitsForItsMask();
        aTrapWaitsForItsIndices();
        maskedOnesOfOtherUnitsAreHandedOutAtOnce();
        loadxWaitsForTheWholeGroup();
        scalarsOfTheHandOutCount();
        oneInstructionACycle();
        threeUnitsWorkAtOnce();
        stepsOfThisCycleFreeNothing();
        CHECK.end();
    }

    private static void at(String name, Rig rig, int state, int next, int queued) {
        CHECK.is(name + ": state", rig.m.about(0), state);
        CHECK.is(name + ": next", rig.m.about(1), next);
        CHECK.is(name + ": in the queue", rig.m.about(8), queued);
    }

    private static void anEmptyQueueHasNone() {
        Rig rig = new Rig(1).length(Rig.W1, 1).vector(Op.PLUS, 1, 1, 1).op(Op.HALT);
        for (int i = -1; i <= 4; i++) {
            for (int what = -1; what <= 3; what++) {
                CHECK.is("queue(" + i + ", " + what + ") of a new one", rig.m.queue(i, what), NONE);
            }
        }
        rig.run(0);
        for (int what = 0; what < 3; what++) {
            CHECK.is("queue(0, " + what + ") when one has left", rig.m.queue(0, what), NONE);
        }
        CHECK.is("about(8)", rig.m.about(8), 0);
    }

    /** Four of unit 0, of eight steps each, in a machine of one lane; they are instructions 2 to 5. */
    private static Rig four() {
        Rig rig = new Rig(1).length(Rig.W1, 8);
        for (int i = 0; i < 4; i++) {
            rig.vector(Op.PLUSX, 1, 1, 7);
        }
        return rig;
    }

    private static void aFullQueueHasFour() {
        Rig rig = four().op(Op.HALT);
        rig.m.go(0);
        rig.m.cycles(7);
        at("four", rig, HALTED, 6, 4);
        int[] done = {4, 0, 0, 0};
        for (int i = 0; i < 4; i++) {
            CHECK.is("queue(" + i + ", 0)", rig.m.queue(i, 0), 2 + i);
            CHECK.is("queue(" + i + ", 1)", rig.m.queue(i, 1), 8);
            CHECK.is("queue(" + i + ", 2)", rig.m.queue(i, 2), done[i]);
            CHECK.is("queue(" + i + ", 3)", rig.m.queue(i, 3), NONE);
            CHECK.is("queue(" + i + ", -1)", rig.m.queue(i, -1), NONE);
        }
        for (int i : new int[] {-1, 4, 5, Integer.MIN_VALUE, Integer.MAX_VALUE}) {
            CHECK.is("queue(" + i + ", 0)", rig.m.queue(i, 0), NONE);
        }
    }

    /** The first of the four is done in cycle 11, and leaves in it, so that the fifth is handed out there. */
    private static void everyVectorOneWaitsForAPlace() {
        for (int op = Op.PLUS; op <= Op.LOADF; op++) {
            Rig rig = four().vector(op, 4, 2, 3).op(Op.HALT);
            rig.m.go(0);
            rig.m.cycles(6);
            at("operation " + op + " is next", rig, RUNS, 6, 4);
            rig.m.cycles(4);
            at("operation " + op + " waits", rig, RUNS, 6, 4);
            rig.m.cycles(1);
            at("operation " + op + " has a place", rig, RUNS, 7, 4);
            CHECK.is("operation " + op + " is the last", rig.m.queue(3, 0), 6);
        }
    }

    private static void noPlaceIsNeededForScalars() {
        Rig rig = four().set(1, 5);
        rig.m.put(Op.ADD, 2, 1, 1, 0, false);
        rig.m.put(Op.ADDN, 3, 2, 0, 1, false);
        rig.m.put(Op.UNLIKE, 0, 3, 0, 11, false);
        rig.op(Op.HALT).op(Op.HALT);
        rig.m.go(0);
        rig.m.cycles(9);
        at("SET, ADD and ADDN", rig, RUNS, 9, 4);
        CHECK.is("x3", rig.m.scalar(3), 11);
        rig.m.cycles(1);
        at("UNLIKE", rig, RUNS, 11, 4);
        rig.m.cycles(1);
        at("HALT", rig, HALTED, 11, 3);
    }

    private static void firstConfigureAndLimitWaitForEachUnit() {
        for (int ahead : new int[] {Op.PLUS, Op.TIMES, Op.STORE}) {
            for (int op : new int[] {Op.FIRST, Op.CONFIGURE, Op.LIMIT}) {
                Rig rig = new Rig(4).length(Rig.W1, 8).vector(ahead, 5, 0, 0);
                rig.m.put(op, 3, 0, 0, 1, false);
                rig.op(Op.HALT);
                rig.m.go(0);
                rig.m.cycles(4);
                at(op + " waits for " + ahead, rig, RUNS, 3, 1);
                CHECK.is(op + " waits for " + ahead + ": width", rig.m.about(2), 1);
                CHECK.is(op + " waits for " + ahead + ": bound", rig.m.about(6), 128);
                rig.m.cycles(1);
                at(op + " is done in the cycle in which " + ahead + " leaves", rig, RUNS, 4, 0);
            }
        }
    }

    private static void firstConfigureAndLimitDoNotWaitForNothing() {
        Rig rig = new Rig(4).set(1, 2).configure(0, 1, Rig.W2).vector(Op.LIMIT, 0, 1, 0).vector(Op.FIRST, 3, 1, 0).op(Op.HALT);
        rig.m.go(0);
        rig.m.cycles(4);
        at("one a cycle", rig, RUNS, 4, 0);
        CHECK.is("width and bound", rig.m.about(2) * 10 + rig.m.about(6), 22);
    }

    /** Neither the registers nor the places of the two have anything to do with one another. */
    private static void memoryOnesWaitWhateverTheyMoveWhere() {
        for (int ahead = Op.LOAD; ahead <= Op.LOADF; ahead++) {
            for (int op = Op.LOAD; op <= Op.LOADF; op++) {
                Rig rig = new Rig(3).set(1, 64).length(Rig.W1, 8).vector(ahead, 2, 0, 3).vector(op, 5, 1, 6).op(Op.HALT);
                rig.m.go(0);
                rig.m.cycles(6);
                at(op + " waits for " + ahead, rig, RUNS, 4, 1);
                rig.m.cycles(1);
                at(op + " is handed out when " + ahead + " leaves", rig, RUNS, 5, 1);
            }
        }
        Rig other = new Rig(1).length(Rig.W1, 8).vector(Op.PLUS, 2, 3, 3).vector(Op.TIMES, 4, 3, 3);
        other.vector(Op.STORE, 5, 0, 0).op(Op.HALT);
        other.m.go(0);
        other.m.cycles(5);
        at("STORE does not wait for units 0 and 1", other, RUNS, 5, 3);
    }

    private static void aTrapWaitsForAPlace() {
        for (int op = Op.LOAD; op <= Op.LOADF; op++) {
            Rig rig = four().vector(op, 4, 7, 2).op(Op.HALT);
            rig.m.limit(8);
            rig.m.go(0);
            rig.m.cycles(10);
            at("operation " + op + " waits", rig, RUNS, 6, 4);
            rig.m.cycles(1);
            at("operation " + op + " is trapped when there is a place", rig, TRAPPED, 6, 3);
        }
    }

    private static void aTrapWaitsForTheOtherMemoryOne() {
        for (int op = Op.LOAD; op <= Op.LOADF; op++) {
            Rig rig = new Rig(2).length(Rig.W1, 8).vector(Op.LOAD, 2, 0, 0).vector(op, 4, 7, 3).op(Op.HALT);
            rig.m.limit(8);
            rig.m.go(0);
            rig.m.cycles(6);
            at("operation " + op + " waits for LOAD", rig, RUNS, 3, 1);
            rig.m.cycles(1);
            at("operation " + op + " is trapped behind LOAD", rig, TRAPPED, 3, 0);
        }
    }

    /** LESS makes a mask of which bit 5 alone is set, and place 5 is the bad one. */
    private static void aTrapWaitsForItsMask() {
        for (int op : new int[] {Op.LOAD, Op.STORE, Op.LOADX, Op.LOADF}) {
            int[] bytes = new int[64];
            bytes[32 + 5] = 1;
            Rig rig = Rig.withFile(2, bytes);
            int from = rig.here();
            rig.set(1, 1000).length(Rig.W1, 8).vector(Op.LESS, 0, 2, 4).masked(op, 6, 1, 3).op(Op.HALT);
            rig.m.go(from);
            rig.m.cycles(7);
            at("masked " + op + " waits for LESS", rig, RUNS, from + 4, 1);
            rig.m.cycles(1);
            boolean isCut = op == Op.LOADF;
            at("masked " + op + " by the mask that LESS made", rig, isCut ? RUNS : TRAPPED, from + (isCut ? 5 : 4), 1);
            CHECK.is("masked " + op + ": the bad one", rig.m.about(isCut ? 4 : 5), 5);
        }
    }

    private static void aTrapWaitsForItsIndices() {
        Rig rig = new Rig(2).set(1, 100).set(2, 28).length(Rig.W1, 8).vector(Op.PLUSX, 4, 3, 2).vector(Op.LOADX, 6, 1, 4);
        rig.op(Op.HALT);
        rig.m.go(0);
        rig.m.cycles(8);
        at("LOADX waits for its indices", rig, RUNS, 5, 1);
        rig.m.cycles(1);
        at("LOADX is trapped by the indices that PLUSX made", rig, TRAPPED, 5, 0);
    }

    private static void maskedOnesOfOtherUnitsAreHandedOutAtOnce() {
        for (int op = Op.PLUS; op <= Op.GATHER; op++) {
            Rig rig = new Rig(1).length(Rig.W1, 8).vector(Op.LESS, 0, 2, 3).masked(op, 4, 2, 6).op(Op.HALT);
            rig.m.go(0);
            rig.m.cycles(4);
            at("masked " + op + " behind LESS", rig, RUNS, 4, 2);
        }
    }

    /** A LESS makes element 8 of the group of register 4, while LOADX works on elements 0 to 2 alone. */
    private static void loadxWaitsForTheWholeGroup() {
        Rig rig = new Rig(1).set(1, 1).length(Rig.W1 + Rig.G2, 3).vector(Op.LESS, 5, 0, 0).vector(Op.LOADX, 6, 0, 4);
        rig.op(Op.HALT);
        rig.m.go(0);
        rig.m.cycles(6);
        at("LESS makes a byte of register 5", rig, RUNS, 4, 1);
        rig.m.cycles(1);
        at("LOADX when LESS is done", rig, RUNS, 5, 1);
        for (int d : new int[] {3, 6}) {
            Rig other = new Rig(1).set(1, 1).length(Rig.W1 + Rig.G2, 3).vector(Op.LESS, d, 0, 0);
            other.vector(Op.LOADX, 2, 0, 4).op(Op.HALT);
            other.m.go(0);
            other.m.cycles(5);
            at("LESS makes a byte of register " + d, other, RUNS, 5, 2);
        }
    }

    private static void scalarsOfTheHandOutCount() {
        for (int op : new int[] {Op.PLUSX, Op.SLIDE, Op.LOAD, Op.STORE, Op.LOADX, Op.LOADF}) {
            int[] bytes = new int[64];
            for (int k = 8; k < 32; k++) {
                bytes[k] = k;
            }
            Rig changed = Rig.withFile(1, bytes);
            Rig same = Rig.withFile(1, bytes);
            for (Rig rig : new Rig[] {changed, same}) {
                for (int k = 0; k < 64; k++) {
                    rig.m.poke(k, 2 * k);
                }
                int from = rig.here();
                rig.set(2, 20).set(1, 2).length(Rig.W1, 8).vector(op, 4, 2, op == Op.LOADX ? 3 : 1);
                rig.set(1, rig == changed ? 1 : 2).set(2, rig == changed ? 0 : 20).op(Op.HALT).run(from);
            }
            CHECK.is("operation " + op + ": x1 changed", changed.m.scalar(1), 1);
            for (int k = 0; k < 64; k++) {
                CHECK.is("operation " + op + ": byte " + k, changed.m.file(k), same.m.file(k));
                CHECK.is("operation " + op + ": memory " + k, changed.m.memory(k), same.m.memory(k));
            }
        }
    }

    private static void oneInstructionACycle() {
        Rig rig = new Rig(8).length(Rig.W1, 8).vector(Op.PLUS, 1, 1, 1).vector(Op.TIMES, 2, 2, 2).vector(Op.STORE, 3, 0, 0);
        rig.set(1, 1).op(Op.HALT);
        rig.m.go(0);
        for (int cycle = 1; cycle <= 6; cycle++) {
            CHECK.is("cycles(1)", rig.m.cycles(1), cycle);
            CHECK.is("next after cycle " + cycle, rig.m.about(1), cycle);
        }
        rig.m.cycles(1);
        at("HALT", rig, HALTED, 6, 0);
    }

    /** PLUS is handed out in cycle 3, TIMES in cycle 4, STORE in cycle 5; each begins in the cycle behind that. */
    private static void threeUnitsWorkAtOnce() {
        for (int lanes = 1; lanes <= 8; lanes++) {
            Rig rig = new Rig(lanes).length(Rig.W1 + Rig.G2, 16).vector(Op.PLUS, 2, 2, 2).vector(Op.TIMES, 4, 4, 4);
            rig.vector(Op.STORE, 6, 0, 0).op(Op.HALT);
            rig.m.go(0);
            rig.m.cycles(3);
            int[] due = {lanes, 3 * lanes, Math.min(16, 3 * lanes) + 3 * lanes};
            for (int i = 0; i < 3; i++) {
                rig.m.cycles(1);
                CHECK.is("steps by " + lanes + " lanes after cycle " + (4 + i), rig.m.about(10), due[i]);
            }
        }
    }

    /** What is ahead does all its steps in cycle 5, but that frees the one behind it only in cycle 6. */
    private static void stepsOfThisCycleFreeNothing() {
        Rig held = new Rig(8).length(Rig.W1 + Rig.G2, 16).vector(Op.PLUS, 2, 0, 0).vector(Op.SUM, 5, 2, 1).op(Op.HALT);
        held.m.go(0);
        held.m.cycles(5);
        CHECK.is("PLUS has done all, SUM, in the same cycle, nothing", held.m.about(10), 16);
        held.m.cycles(1);
        CHECK.is("SUM follows in the next", held.m.about(10), 17);
    }
}
