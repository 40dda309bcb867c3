/** "Terms", the last sentence: when the machine does not run, cycles do parts 1 and 2 alone. */
public final class NotRunningTest {
    private static final int HALTED = LaneMachine.HALTED;
    private static final int TRAPPED = LaneMachine.TRAPPED;
    private static final int ILLEGAL = LaneMachine.ILLEGAL;
    private static final Check CHECK = new Check("NotRunningTest");

    public static void main(String[] args) {
        aNewOneOnlyCounts();
        unitsGoOnAfterHalt();
        unitsGoOnAfterATrap();
        unitsGoOnAfterAnIllegalOne();
        unitsGoOnBehindTheLastInstruction();
        nothingIsHandedOut();
        goAndResumeAreNoCycles();
        CHECK.end();
    }

    private static void aNewOneOnlyCounts() {
        LaneMachine m = new LaneMachine(4);
        LaneMachine other = new LaneMachine(4);
        m.put(Op.SET, 1, 0, 0, 5, false);
        other.put(Op.SET, 1, 0, 0, 5, false);
        CHECK.is("cycles(200)", m.cycles(200), 200);
        CHECK.is("cycles(1)", other.cycles(1), 1);
        CHECK.is("cycles(199)", other.cycles(199), 200);
        String difference = new Snapshot(m).differenceFrom(new Snapshot(other));
        CHECK.holds("200 cycles in two ways, but " + difference, difference.isEmpty());
        CHECK.is("nothing was done", m.scalar(1), 0);
        CHECK.is("state", m.about(0), HALTED);
        CHECK.is("next", m.about(1), 0);
    }

    /** Three instructions in the queue, of which the last waits for the first, and then the one that stops the machine. */
    private static Rig three() {
        return new Rig(1).set(1, 1).length(Rig.W1, 8).vector(Op.PLUSX, 2, 2, 1).vector(Op.SUM, 4, 2, 5)
                .vector(Op.STORE, 2, 0, 1);
    }

    private static void goesOn(String name, Rig rig, int state, int next) {
        rig.m.go(0);
        rig.m.cycles(7);
        CHECK.is(name + ": state", rig.m.about(0), state);
        CHECK.is(name + ": in the queue", rig.m.about(8), 3);
        rig.m.cycles(1);
        CHECK.is(name + ": steps of PLUSX", rig.m.queue(0, 2), 4);
        CHECK.is(name + ": steps of SUM", rig.m.queue(1, 2), 0);
        CHECK.is(name + ": steps of STORE", rig.m.queue(2, 2), 2);
        rig.m.cycles(4);
        CHECK.is(name + ": PLUSX left", rig.m.queue(0, 0), 4);
        rig.m.cycles(1);
        CHECK.is(name + ": SUM left", rig.m.queue(0, 0), 5);
        rig.m.cycles(1);
        CHECK.is(name + ": all left", rig.m.about(8), 0);
        CHECK.is(name + ": cycles(50)", rig.m.cycles(50), 64);
        CHECK.is(name + ": SUM", rig.m.file(32), 8);
        CHECK.is(name + ": state at the end", rig.m.about(0), state);
        CHECK.is(name + ": next at the end", rig.m.about(1), next);
        CHECK.is(name + ": nothing behind was done", rig.m.scalar(6), 0);
        CHECK.is(name + ": steps in all", rig.m.about(10), 17);
    }

    private static void unitsGoOnAfterHalt() {
        Rig rig = three().op(Op.HALT).set(6, 6);
        goesOn("HALT", rig, HALTED, 6);
        for (int k = 0; k < 8; k++) {
            CHECK.is("stored by a halted one, " + k, rig.m.memory(k), 1);
        }
    }

    /** Element 9 may not be reached, so the STORE is handed out for the nine ahead of it. */
    private static void unitsGoOnAfterATrap() {
        Rig rig = new Rig(1).set(1, 1).length(Rig.W1 + Rig.G2, 16).vector(Op.PLUSX, 2, 2, 1).vector(Op.STORE, 2, 0, 1);
        rig.set(6, 6);
        rig.m.limit(9);
        rig.m.go(0);
        rig.m.cycles(5);
        CHECK.is("trapped with both in the queue", rig.m.about(0) * 10 + rig.m.about(8), TRAPPED * 10 + 2);
        CHECK.is("steps of STORE", rig.m.queue(1, 1), 9);
        rig.m.cycles(9);
        CHECK.is("PLUSX alone is left", rig.m.about(8) * 100 + rig.m.queue(0, 0), 103);
        CHECK.is("cycles(40)", rig.m.cycles(40), 54);
        CHECK.is("all left", rig.m.about(8), 0);
        CHECK.is("still trapped", rig.m.about(0) * 100 + rig.m.about(1) * 10, TRAPPED * 100 + 40);
        CHECK.is("the start stays", rig.m.about(5), 9);
        CHECK.is("nothing behind was done", rig.m.scalar(6), 0);
        CHECK.is("stored, the last", rig.m.memory(8), 1);
        CHECK.is("not stored, the first", rig.m.memory(9), 0);
        CHECK.is("steps in all", rig.m.about(10), 25);
    }

    private static void unitsGoOnAfterAnIllegalOne() {
        goesOn("SLIDE onto itself", three().vector(Op.SLIDE, 3, 3, 0).set(6, 6), ILLEGAL, 6);
    }

    private static void unitsGoOnBehindTheLastInstruction() {
        goesOn("none there", three(), ILLEGAL, 6);
    }

    /** Places in the queue become free, but a machine that halted takes none of them. */
    private static void nothingIsHandedOut() {
        Rig rig = new Rig(8).length(Rig.W1, 1).op(Op.HALT).vector(Op.PLUSX, 2, 2, 7);
        rig.m.go(0);
        rig.m.cycles(200);
        CHECK.is("steps", rig.m.about(10), 0);
        CHECK.is("HALT is next", rig.m.about(1), 2);
        CHECK.is("go(3)", rig.m.go(3), 3);
        rig.m.cycles(2);
        CHECK.is("then it is done", rig.m.file(16), 1);
    }

    private static void goAndResumeAreNoCycles() {
        Rig rig = new Rig(1).length(Rig.W1, 1).vector(Op.LOAD, 2, 0, 0);
        rig.m.limit(0);
        rig.m.go(0);
        CHECK.is("cycles after go", rig.m.about(7), 0);
        rig.m.cycles(3);
        CHECK.is("resume()", rig.m.resume(), 0);
        CHECK.is("cycles after resume", rig.m.about(7), 3);
        CHECK.is("the instruction is still next", rig.m.about(1), 2);
    }
}
