/** Promises 5, 11 and 12 by which steps are done in which cycle, and what waits for what. */
public final class QueueTest {
    private static final Check CHECK = new Check("QueueTest");

    public static void main(String[] args) {
        lanesBoundTheSteps();
        stepsFollowAStepBehind();
        oneUnitDoesOneAtATime();
        writesWaitForReads();
        writesWaitForWrites();
        readsDoNotWaitForReads();
        sumWaitsForAll();
        slideWaitsForTheElementsItNames();
        gatherWaitsForTheWholeGroup();
        maskedOnesWaitForTheirMaskByte();
        lessWritesAByte();
        wideWritesTwiceTheWidth();
        leftOutStepsHoldOthersBack();
        finishedOnesLeaveFromTheMiddle();
        fourFillTheQueue();
        scalarsDoNotWait();
        firstConfigureAndLimitWait();
        haltDoesNotWait();
        memoryOnesWaitForOneAnother();
        maskedMemoryOnesWaitForTheMask();
        loadxWaitsForItsIndices();
        CHECK.end();
    }

    private static void done(String name, Rig rig, int... due) {
        for (int i = 0; i < 4; i++) {
            CHECK.is(name + ": steps done of " + i, rig.m.queue(i, 2), i < due.length ? due[i] : LaneMachine.NONE);
        }
    }

    /** Runs the first two instructions, which set the length, and hands out this many more. */
    private static Rig handed(Rig rig, int count) {
        rig.m.go(0);
        rig.m.cycles(2 + count);
        return rig;
    }

    private static void lanesBoundTheSteps() {
        Rig rig = handed(new Rig(3).length(Rig.W1, 8).vector(Op.PLUS, 1, 2, 3).op(Op.HALT), 1);
        done("handed out", rig, 0);
        rig.m.cycles(1);
        done("a cycle on", rig, 3);
        rig.m.cycles(1);
        done("two cycles on", rig, 6);
        rig.m.cycles(1);
        done("three cycles on", rig);
        CHECK.is("steps in all", rig.m.about(10), 8);
    }

    private static void stepsFollowAStepBehind() {
        Rig rig = new Rig(2).length(Rig.W1, 8).vector(Op.PLUS, 1, 2, 3).vector(Op.TIMES, 4, 1, 1);
        handed(rig.vector(Op.STORE, 4, 0, 0).op(Op.HALT), 2);
        done("both handed out", rig, 2, 0);
        rig.m.cycles(1);
        done("TIMES follows what was done before", rig, 4, 2, 0);
        rig.m.cycles(1);
        done("STORE follows TIMES", rig, 6, 4, 2);
        rig.m.cycles(1);
        done("PLUS is gone", rig, 6, 4);
        rig.m.cycles(2);
        done("all are gone", rig);
        CHECK.is("steps in all", rig.m.about(10), 24);
    }

    private static void oneUnitDoesOneAtATime() {
        Rig rig = new Rig(8).length(Rig.W1, 2).vector(Op.PLUS, 1, 2, 3).vector(Op.MINUS, 4, 5, 6);
        handed(rig.vector(Op.PLUS, 2, 5, 6).op(Op.HALT), 1);
        rig.m.cycles(1);
        done("the first is gone, the second was not yet looked at", rig, 0);
        Rig slow = new Rig(3).length(Rig.W1 + Rig.G2, 16).vector(Op.PLUS, 2, 2, 2).vector(Op.MINUS, 4, 6, 6);
        handed(slow.op(Op.HALT), 2);
        slow.m.cycles(4);
        done("of one unit, the first alone", slow, 15, 0);
        slow.m.cycles(1);
        done("lanes left over are not used", slow, 0);
        slow.m.cycles(1);
        done("then the next", slow, 3);
    }

    private static void writesWaitForReads() {
        Rig rig = new Rig(2).length(Rig.W1, 8).vector(Op.TIMES, 4, 1, 2).vector(Op.PLUS, 1, 5, 5);
        handed(rig.op(Op.HALT), 2);
        done("TIMES reads", rig, 2, 0);
        rig.m.cycles(1);
        done("PLUS writes what was read before", rig, 4, 2);
        Rig other = new Rig(1).length(Rig.W1, 8).vector(Op.STORE, 1, 0, 0).vector(Op.PLUS, 1, 5, 5);
        handed(other.op(Op.HALT), 2);
        other.m.cycles(1);
        done("PLUS over what STORE reads", other, 2, 1);
    }

    private static void writesWaitForWrites() {
        Rig rig = new Rig(2).length(Rig.W1, 8).vector(Op.TIMES, 4, 1, 1).vector(Op.PLUS, 4, 2, 2);
        handed(rig.op(Op.HALT), 2);
        done("TIMES writes", rig, 2, 0);
        rig.m.cycles(1);
        done("PLUS writes behind it", rig, 4, 2);
    }

    private static void readsDoNotWaitForReads() {
        Rig rig = new Rig(2).length(Rig.W1, 8).vector(Op.TIMES, 4, 1, 1).vector(Op.PLUS, 3, 1, 1);
        handed(rig.op(Op.HALT), 2);
        rig.m.cycles(1);
        done("both read the same", rig, 4, 2);
        Rig all = new Rig(4).length(Rig.W1, 8).vector(Op.TIMES, 4, 1, 1).vector(Op.PLUS, 3, 1, 1);
        handed(all.vector(Op.STORE, 1, 0, 0).op(Op.HALT), 3);
        all.m.cycles(1);
        done("PLUS and STORE overtake nothing, but wait for nothing", all, 4);
    }

    private static void sumWaitsForAll() {
        Rig rig = new Rig(2).length(Rig.W1, 8).vector(Op.PLUS, 1, 2, 2).vector(Op.SUM, 4, 1, 5);
        handed(rig.op(Op.HALT), 2);
        CHECK.is("SUM has one step", rig.m.queue(1, 1), 1);
        rig.m.cycles(2);
        done("SUM waits", rig, 6, 0);
        rig.m.cycles(1);
        done("PLUS is done, SUM was not free in that cycle", rig, 0);
        rig.m.cycles(1);
        done("SUM is done", rig);
        Rig behind = new Rig(8).length(Rig.W1, 2).vector(Op.PLUS, 1, 2, 2).vector(Op.SUM, 4, 6, 1);
        handed(behind.vector(Op.LESS, 4, 2, 3).op(Op.HALT), 2);
        done("SUM waits for element 0 of b", behind, 0);
        behind.m.cycles(1);
        done("LESS was handed out when SUM was done", behind, 0);
        Rig free = new Rig(1).length(Rig.W1, 3).vector(Op.PLUS, 1, 2, 2).vector(Op.SUM, 4, 6, 7);
        handed(free.op(Op.HALT), 3);
        done("SUM of others is done at once", free, 2);
        Rig over = new Rig(1).length(Rig.W1 + Rig.G2, 16).vector(Op.STORE, 2, 0, 0).vector(Op.SUM, 3, 4, 6).op(Op.HALT);
        handed(over, 2);
        over.m.cycles(8);
        done("SUM waits while STORE reads element 0 of register 3", over, 9, 0);
        over.m.cycles(1);
        done("it waits for that byte alone", over, 10);
    }

    private static void slideWaitsForTheElementsItNames() {
        Rig rig = new Rig(1).set(3, 2).length(Rig.W1, 8).vector(Op.PLUS, 1, 2, 2).vector(Op.SLIDE, 4, 1, 3).op(Op.HALT);
        rig.m.go(0);
        rig.m.cycles(5);
        int[] plus = {1, 2, 3, 4, 5, 6, 7};
        int[] slide = {0, 0, 0, 1, 2, 3, 4};
        for (int i = 0; i < plus.length; i++) {
            done("SLIDE by 2 after " + i, rig, plus[i], slide[i]);
            rig.m.cycles(1);
        }
        done("SLIDE by 2, PLUS done", rig, 5);
        Rig away = new Rig(1).set(3, 8).length(Rig.W1, 8).vector(Op.PLUS, 1, 2, 2).vector(Op.SLIDE, 4, 1, 3).op(Op.HALT);
        away.m.go(0);
        away.m.cycles(7);
        done("SLIDE of nothing waits for nothing", away, 3, 2);
        Rig back = new Rig(2).set(3, -1).length(Rig.W1, 8).vector(Op.PLUS, 1, 2, 2).vector(Op.SLIDE, 4, 1, 3).op(Op.HALT);
        back.m.go(0);
        back.m.cycles(6);
        done("SLIDE by -1", back, 4, 2);
    }

    private static void gatherWaitsForTheWholeGroup() {
        Rig rig = new Rig(1).length(Rig.W1, 3).vector(Op.PLUS, 1, 2, 2).vector(Op.GATHER, 4, 1, 3).op(Op.HALT);
        handed(rig, 2);
        rig.m.cycles(1);
        done("GATHER waits while PLUS has a step", rig, 2, 0);
        rig.m.cycles(1);
        done("PLUS is gone", rig, 0);
        rig.m.cycles(1);
        done("GATHER begins", rig, 1);
        Rig write = new Rig(1).length(Rig.W1, 3).vector(Op.GATHER, 4, 1, 3).vector(Op.PLUS, 1, 2, 2).op(Op.HALT);
        handed(write, 2);
        write.m.cycles(1);
        done("PLUS waits while GATHER may read a", write, 2, 0);
        write.m.cycles(2);
        done("then it goes on", write, 1);
        Rig index = new Rig(1).length(Rig.W1, 3).vector(Op.PLUS, 3, 2, 2).vector(Op.GATHER, 4, 1, 3).op(Op.HALT);
        handed(index, 2);
        index.m.cycles(1);
        done("b is waited for element by element", index, 2, 1);
    }

    private static void maskedOnesWaitForTheirMaskByte() {
        Rig rig = new Rig(1).length(Rig.W1, 8).vector(Op.TIMES, 0, 2, 2).masked(Op.PLUS, 4, 5, 5).op(Op.HALT);
        handed(rig, 2);
        done("byte 0 of register 0 is not made", rig, 1, 0);
        rig.m.cycles(1);
        done("byte 0 of register 0 is made", rig, 2, 1);
        rig.m.cycles(3);
        done("the other bytes are no masks of the first eight", rig, 5, 4);
        Rig sum = new Rig(1).length(Rig.W1 + Rig.G2, 9).vector(Op.PLUS, 0, 2, 2).masked(Op.SUM, 4, 6, 5).op(Op.HALT);
        handed(sum, 3);
        done("SUM of nine needs two mask bytes", sum, 2, 0);
        sum.m.cycles(1);
        done("both are made", sum, 3);
    }

    private static void lessWritesAByte() {
        Rig rig = new Rig(1).length(Rig.W1 + Rig.G2, 16).vector(Op.LESS, 0, 2, 4).vector(Op.TIMES, 6, 0, 0).op(Op.HALT);
        handed(rig, 2);
        rig.m.cycles(6);
        done("seven of eight bits of byte 0", rig, 7, 0);
        rig.m.cycles(1);
        done("eight", rig, 8, 0);
        rig.m.cycles(1);
        done("byte 0 is made", rig, 9, 1);
        rig.m.cycles(1);
        done("byte 1 is not", rig, 10, 1);
    }

    private static void wideWritesTwiceTheWidth() {
        Rig rig = new Rig(1).length(Rig.W1, 8).vector(Op.WIDE, 4, 2, 2).vector(Op.TIMES, 6, 4, 4).op(Op.HALT);
        handed(rig, 2);
        rig.m.cycles(1);
        done("two bytes a step", rig, 2, 1);
        rig.m.cycles(1);
        done("both made before", rig, 3, 2);
        rig.m.cycles(1);
        done("WIDE is ahead", rig, 4, 3);
        Rig high = new Rig(1).length(Rig.W1, 8).vector(Op.WIDE, 4, 2, 2).vector(Op.TIMES, 6, 5, 5).op(Op.HALT);
        handed(high, 2);
        high.m.cycles(3);
        done("register 5 is made last", high, 4, 0);
        high.m.cycles(2);
        done("its first byte is made", high, 6, 1);
    }

    private static void leftOutStepsHoldOthersBack() {
        Rig rig = new Rig(1).length(Rig.W1, 8).masked(Op.PLUS, 1, 2, 2).vector(Op.TIMES, 4, 1, 1).op(Op.HALT);
        handed(rig, 2);
        done("the mask is 0", rig, 1, 0);
        rig.m.cycles(1);
        done("but steps are waited for", rig, 2, 1);
        rig.m.cycles(7);
        CHECK.is("steps are counted", rig.m.about(10), 16);
    }

    private static void finishedOnesLeaveFromTheMiddle() {
        Rig rig = new Rig(1).length(Rig.W1, 8).vector(Op.PLUS, 1, 2, 2).vector(Op.SUM, 4, 6, 6);
        rig.vector(Op.MINUS, 5, 7, 7).op(Op.HALT);
        handed(rig, 2);
        CHECK.is("the second is SUM", rig.m.queue(1, 0), 3);
        rig.m.cycles(1);
        CHECK.is("then MINUS is the second", rig.m.queue(1, 0), 4);
        CHECK.is("PLUS is the first", rig.m.queue(0, 0), 2);
        done("SUM left", rig, 2, 0);
        rig.m.cycles(6);
        CHECK.is("MINUS is the first", rig.m.queue(0, 0), 4);
    }

    private static void fourFillTheQueue() {
        Rig rig = new Rig(1).length(Rig.W1, 2);
        for (int i = 0; i < 8; i++) {
            rig.vector(Op.PLUS, 1, 1, 1);
        }
        rig.m.go(0);
        int[] cycles = {3, 4, 5, 6, 7, 8, 9, 10, 11, 12};
        int[] length = {1, 2, 2, 3, 3, 4, 4, 4, 4, 4};
        int[] next = {3, 4, 5, 6, 7, 8, 9, 9, 10, 10};
        rig.m.cycles(2);
        for (int i = 0; i < cycles.length; i++) {
            CHECK.is("cycles", rig.m.cycles(1), cycles[i]);
            CHECK.is("queue after " + cycles[i], rig.m.about(8), length[i]);
            CHECK.is("next after " + cycles[i], rig.m.about(1), next[i]);
        }
        Rig none = new Rig(1).length(Rig.W1, 8);
        for (int i = 0; i < 4; i++) {
            none.vector(Op.PLUS, 1, 1, 1);
        }
        none.vector(Op.STORE, 3, 0, 0).op(Op.HALT);
        none.m.go(0);
        none.m.cycles(10);
        CHECK.is("a STORE waits while four are there", none.m.about(1) * 10 + none.m.about(8), 64);
        none.m.cycles(1);
        CHECK.is("it comes in the cycle in which one leaves", none.m.about(1) * 10 + none.m.about(8), 74);
    }

    private static void scalarsDoNotWait() {
        Rig rig = new Rig(1).length(Rig.W1, 8).vector(Op.PLUS, 1, 2, 2).set(1, 3);
        rig.m.put(Op.ADD, 2, 1, 1, 0, false);
        rig.m.put(Op.ADDN, 3, 2, 0, 1, false);
        rig.m.put(Op.UNLIKE, 0, 3, 0, 8, false);
        rig.op(Op.HALT).set(4, 4).op(Op.HALT);
        rig.m.go(0);
        rig.m.cycles(8);
        CHECK.is("all are done while PLUS works", rig.m.scalar(3) * 10 + rig.m.scalar(4), 74);
        done("PLUS works", rig, 5);
    }

    private static void firstConfigureAndLimitWait() {
        for (int op : new int[] {Op.FIRST, Op.CONFIGURE, Op.LIMIT}) {
            Rig rig = new Rig(1).length(Rig.W1, 8).vector(Op.PLUSX, 1, 1, 7);
            rig.m.put(op, 3, 1, 0, 0, false);
            rig.op(Op.HALT);
            rig.m.go(0);
            rig.m.cycles(10);
            CHECK.is(op + " waits", rig.m.about(1) * 100 + rig.m.about(6) / 128 * 10 + rig.m.about(4), 318);
            CHECK.is(op + " has not been done", rig.m.scalar(3), 0);
            rig.m.cycles(1);
            CHECK.is(op + " is done when the queue is empty", rig.m.about(1), 4);
            CHECK.is(op + " and x3", rig.m.scalar(3), op == Op.FIRST ? 8 : 0);
            CHECK.is(op + " and vl", rig.m.about(4), op == Op.CONFIGURE ? 0 : 8);
            CHECK.is(op + " and the bound", rig.m.about(6), op == Op.LIMIT ? 0 : 128);
        }
    }

    private static void haltDoesNotWait() {
        Rig rig = handed(new Rig(1).length(Rig.W1, 8).vector(Op.PLUS, 1, 2, 2).op(Op.HALT), 2);
        CHECK.is("halted with a queue", rig.m.about(0) * 10 + rig.m.about(8), 11);
        rig.m.cycles(6);
        done("it goes on", rig, 7);
        rig.m.cycles(1);
        done("to the end", rig);
    }

    private static void memoryOnesWaitForOneAnother() {
        for (int first = Op.LOAD; first <= Op.LOADF; first++) {
            for (int second = Op.LOAD; second <= Op.LOADF; second++) {
                Rig rig = new Rig(2).length(Rig.W1, 8).vector(first, 2, 0, 0).vector(second, 4, 0, 0).op(Op.HALT);
                rig.m.go(0);
                rig.m.cycles(6);
                CHECK.is(second + " behind " + first, rig.m.about(1) * 10 + rig.m.about(8), 31);
                rig.m.cycles(1);
                CHECK.is(second + " when " + first + " is done", rig.m.about(1) * 10 + rig.m.about(8), 41);
            }
        }
    }

    private static void maskedMemoryOnesWaitForTheMask() {
        int[] ops = {Op.LOAD, Op.STORE, Op.LOADX, Op.LOADF};
        for (int op : ops) {
            Rig rig = new Rig(2).length(Rig.W1, 8).vector(Op.PLUS, 0, 1, 1).masked(op, 4, 0, 6).op(Op.HALT);
            rig.m.go(0);
            rig.m.cycles(6);
            CHECK.is("masked " + op + " waits for all of register 0", rig.m.about(1), 3);
            rig.m.cycles(1);
            CHECK.is("masked " + op + " is handed out then", rig.m.about(1), 4);
            Rig open = new Rig(2).length(Rig.W1, 8).vector(Op.PLUS, 0, 1, 1).vector(op, 4, 0, 6).op(Op.HALT);
            open.m.go(0);
            open.m.cycles(4);
            CHECK.is("unmasked " + op + " does not wait", open.m.about(1), 4);
            Rig other = new Rig(2).length(Rig.W1, 8).vector(Op.PLUS, 1, 0, 0).masked(op, 4, 0, 6).op(Op.HALT);
            other.m.go(0);
            other.m.cycles(4);
            CHECK.is("masked " + op + " does not wait for other registers", other.m.about(1), 4);
        }
        Rig less = new Rig(1).length(Rig.W1, 3).vector(Op.LESS, 0, 1, 1).masked(Op.STORE, 4, 0, 6).op(Op.HALT);
        less.m.go(0);
        less.m.cycles(5);
        CHECK.is("STORE waits for LESS", less.m.about(1), 3);
        less.m.cycles(1);
        CHECK.is("STORE comes when LESS is done", less.m.about(1), 4);
        Rig part = new Rig(1).length(Rig.W1 + Rig.G2, 16).vector(Op.PLUS, 0, 4, 4).masked(Op.STORE, 6, 0, 0).op(Op.HALT);
        part.m.go(0);
        part.m.cycles(10);
        CHECK.is("STORE waits for the eighth byte", part.m.about(1), 3);
        part.m.cycles(1);
        CHECK.is("but not for register 1", part.m.about(1) * 10 + part.m.about(8), 42);
    }

    private static void loadxWaitsForItsIndices() {
        Rig rig = new Rig(2).length(Rig.W1 + Rig.G2, 16).vector(Op.PLUS, 4, 0, 0).vector(Op.LOADX, 6, 0, 4).op(Op.HALT);
        rig.m.go(0);
        rig.m.cycles(10);
        CHECK.is("LOADX waits", rig.m.about(1), 3);
        rig.m.cycles(1);
        CHECK.is("LOADX is handed out when b is made", rig.m.about(1), 4);
        Rig tail = new Rig(1).length(Rig.W1 + Rig.G2, 3).vector(Op.SUM, 5, 0, 0).vector(Op.PLUS, 6, 0, 0);
        tail.vector(Op.LOADX, 2, 0, 4).op(Op.HALT);
        tail.m.go(0);
        tail.m.cycles(5);
        CHECK.is("SUM is done, PLUS makes no indices", tail.m.about(1), 5);
        Rig second = new Rig(1).length(Rig.W1 + Rig.G2, 3).vector(Op.TIMES, 6, 0, 0).vector(Op.SUM, 5, 0, 0);
        second.vector(Op.LOADX, 2, 0, 4).op(Op.HALT);
        second.m.go(0);
        second.m.cycles(6);
        CHECK.is("the second register of the group counts", second.m.about(1), 4);
        second.m.cycles(1);
        CHECK.is("SUM is done", second.m.about(1), 5);
    }
}
