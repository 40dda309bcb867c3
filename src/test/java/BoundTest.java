/** "Terms", the check of LOAD, STORE, LOADX and LOADF: the bound, the bad element, and going on from the start. */
public final class BoundTest {
    private static final int RUNS = LaneMachine.RUNS;
    private static final int HALTED = LaneMachine.HALTED;
    private static final int TRAPPED = LaneMachine.TRAPPED;
    private static final int[] OPS = {Op.LOAD, Op.STORE, Op.LOADX, Op.LOADF};
    private static final Check CHECK = new Check("BoundTest");

    public static void main(String[] args) {
        lastByteThatMayBeReached();
        placesFarAway();
        noByteMayBeReached();
        eachElementCanBeTheBadOne();
        badOneReachesOverTheBoundByPart();
        badOneBelowTheFirstByte();
        goingOnDoesTheRestAlone();
        goingOnUnderTheSameBoundTrapsAgain();
        goingOnStepByStep();
        goingOnWithTheLastElement();
        theNextInstructionBeginsAtZero();
        goForgetsTheStart();
        leftOutElementsAreNeverBad();
        goingOnKeepsToTheMask();
        loadfCutsAtEachElement();
        loadfThatIsTrappedCanBeCutLater();
        loadfWithoutABadOneKeepsTheLength();
        theBoundOfTheHandOutCounts();
        pokeReachesBeyondTheBound();
        CHECK.end();
    }

    private static int value(int k) {
        return (byte) (5 * k + 3);
    }

    private static Rig withMemory(int lanes) {
        Rig rig = new Rig(lanes);
        for (int k = 0; k < 128; k++) {
            rig.m.poke(k, value(k));
        }
        return rig;
    }

    private static long inMemory(int place, int width) {
        long v = value(place + width - 1);
        for (int j = width - 2; j >= 0; j--) {
            v = v * 256 + (value(place + j) & 255);
        }
        return v;
    }

    private static void state(String name, Rig rig, int state, int next, int start) {
        CHECK.is(name + ": state", rig.m.about(0), state);
        CHECK.is(name + ": next", rig.m.about(1), next);
        CHECK.is(name + ": start", rig.m.about(5), start);
    }

    /** One element at this place; instruction 5 does it. The index register 6 has 9 in its element 0. */
    private static Rig one(int op, int power, int bound, int place) {
        Rig rig = new Rig(1).set(1, op == Op.LOADX ? place - 9 : place).length(power, 1).set(2, 9);
        rig.vector(Op.PLUSX, 6, 6, 2).vector(op, 3, 1, 6).op(Op.HALT);
        rig.m.limit(bound);
        return rig.run(0);
    }

    private static void oneIs(String why, int op, int power, int bound, int place, boolean isBad) {
        Rig rig = one(op, power, bound, place);
        String name = why + ": operation " + op + ", width " + (1 << power) + ", bound " + bound + ", place " + place;
        state(name, rig, isBad ? TRAPPED : HALTED, isBad ? 5 : 6, 0);
        CHECK.is(name + ": steps", rig.m.about(10), isBad ? 1 : 2);
        CHECK.is(name + ": vl", rig.m.about(4), 1);
    }

    private static void lastByteThatMayBeReached() {
        for (int op : OPS) {
            for (int power = 0; power < 3; power++) {
                int width = 1 << power;
                for (int bound : new int[] {width, width + 1, 64, 127, 128}) {
                    oneIs("first place", op, power, bound, 0, false);
                    oneIs("last good place", op, power, bound, bound - width, false);
                    for (int over = 1; over <= width; over++) {
                        oneIs("over by " + over, op, power, bound, bound - width + over, true);
                        oneIs("below by " + over, op, power, bound, -over, true);
                    }
                }
            }
        }
    }

    private static void placesFarAway() {
        for (int op : OPS) {
            for (int power = 0; power < 3; power++) {
                for (int place : new int[] {Integer.MIN_VALUE, Integer.MIN_VALUE + 1, -129, 129, 256, 65536, 1 << 24,
                    Integer.MAX_VALUE - 3, Integer.MAX_VALUE - 2, Integer.MAX_VALUE - 1, Integer.MAX_VALUE}) {
                    oneIs("far away", op, power, 128, place, true);
                }
            }
        }
    }

    private static void noByteMayBeReached() {
        for (int op : OPS) {
            for (int power = 0; power < 3; power++) {
                for (int bound = 0; bound < 1 << power; bound++) {
                    for (int place = -4; place <= 4; place++) {
                        oneIs("none", op, power, bound, place, true);
                    }
                }
            }
        }
    }

    /** Elements side by side from place 0 on, of register 1, while register 2 has their places; it is handed out. */
    private static Rig row(int op, int power, int bound) {
        int width = 1 << power;
        int[] bytes = new int[24];
        for (int k = 0; k < 8; k++) {
            bytes[8 + k] = 10 + k;
            bytes[16 + k] = k % width == 0 ? k : 0;
        }
        Rig rig = Rig.withFile(2, bytes);
        for (int k = 0; k < 8; k++) {
            rig.m.poke(k, 50 + k);
        }
        int from = rig.here();
        rig.set(2, width).length(power, 8).vector(op, 1, 0, 2).op(Op.HALT);
        rig.m.limit(bound);
        rig.m.go(from);
        rig.m.cycles(4);
        return rig;
    }

    private static void eachElementCanBeTheBadOne() {
        for (int op : OPS) {
            for (int power = 0; power < 3; power++) {
                int width = 1 << power;
                int length = 8 >> power;
                for (int bad = 0; bad <= length; bad++) {
                    Rig rig = row(op, power, bad * width);
                    int at = rig.here() - 2;
                    String name = "operation " + op + ", width " + width + ", bad " + bad;
                    boolean isTrapped = bad < length && (op != Op.LOADF || bad == 0);
                    state(name, rig, isTrapped ? TRAPPED : RUNS, isTrapped ? at : at + 1, isTrapped ? bad : 0);
                    CHECK.is(name + ": vl", rig.m.about(4), op == Op.LOADF && bad > 0 ? bad : length);
                    CHECK.is(name + ": in the queue", rig.m.about(8), bad > 0 ? 1 : 0);
                    CHECK.is(name + ": its number", rig.m.queue(0, 0), bad > 0 ? at : LaneMachine.NONE);
                    CHECK.is(name + ": its steps", rig.m.queue(0, 1), bad > 0 ? bad : LaneMachine.NONE);
                    rig.m.cycles(10);
                    bytesAre(name, rig, op, bad * width);
                }
            }
        }
    }

    /** This many bytes were moved, and none behind them. */
    private static void bytesAre(String name, Rig rig, int op, int moved) {
        for (int k = 0; k < 8; k++) {
            int file = k < moved && op != Op.STORE ? 50 + k : 10 + k;
            int memory = k < moved && op == Op.STORE ? 10 + k : 50 + k;
            CHECK.is(name + ": byte " + k + " of the register", rig.m.file(8 + k), file);
            CHECK.is(name + ": byte " + k + " of memory", rig.m.memory(k), memory);
        }
    }

    private static void badOneReachesOverTheBoundByPart() {
        for (int op : OPS) {
            for (int bound = 4; bound < 8; bound++) {
                Rig rig = row(op, 2, bound);
                String name = "operation " + op + " of width 4, bound " + bound;
                CHECK.is(name + ": steps", rig.m.queue(0, 1), 1);
                rig.m.cycles(5);
                bytesAre(name, rig, op, 4);
            }
        }
    }

    private static void badOneBelowTheFirstByte() {
        for (int power = 0; power < 3; power++) {
            int width = 1 << power;
            for (int op : new int[] {Op.LOAD, Op.STORE}) {
                Rig rig = withMemory(2).set(1, width).set(2, -width).length(power, 8).vector(op, 3, 1, 2).op(Op.HALT).run(0);
                state("operation " + op + " down by " + width, rig, 8 >> power == 2 ? HALTED : TRAPPED,
                        8 >> power == 2 ? 5 : 4, 8 >> power == 2 ? 0 : 2);
            }
            Rig cut = withMemory(2).set(1, 0).set(2, -1).length(power, 8).vector(Op.LOADF, 3, 1, 2).op(Op.HALT).run(0);
            state("LOADF down by 1", cut, HALTED, 5, 0);
            CHECK.is("LOADF down by 1: vl", cut.m.about(4), 1);
        }
    }

    private static void goingOnDoesTheRestAlone() {
        for (int op : new int[] {Op.LOAD, Op.STORE, Op.LOADX}) {
            for (int bad = 0; bad < 8; bad++) {
                Rig rig = row(op, 0, bad);
                int at = rig.here() - 2;
                String name = "operation " + op + ", going on from " + bad;
                rig.m.cycles(5);
                int before = rig.m.about(10);
                rig.m.limit(128);
                CHECK.is(name + ": resume()", rig.m.resume(), bad);
                state(name, rig, RUNS, at, bad);
                rig.m.cycles(1);
                state(name + ", handed out", rig, RUNS, at + 1, 0);
                CHECK.is(name + ": steps", rig.m.queue(0, 1), 8 - bad);
                rig.m.cycles(10);
                state(name + ", at the end", rig, HALTED, at + 1, 0);
                CHECK.is(name + ": steps done", rig.m.about(10) - before, 8 - bad);
                bytesAre(name, rig, op, 8);
            }
        }
    }

    private static void goingOnUnderTheSameBoundTrapsAgain() {
        for (int op : new int[] {Op.LOAD, Op.STORE, Op.LOADX}) {
            Rig rig = row(op, 0, 3);
            int at = rig.here() - 2;
            rig.m.cycles(5);
            for (int i = 0; i < 3; i++) {
                CHECK.is("operation " + op + ": resume()", rig.m.resume(), 3);
                rig.m.cycles(1);
                state("operation " + op + " again", rig, TRAPPED, at, 3);
                CHECK.is("operation " + op + " again: queue", rig.m.about(8), 0);
            }
            rig.m.limit(0);
            CHECK.is("operation " + op + ", a lesser bound: resume()", rig.m.resume(), 3);
            rig.m.cycles(1);
            state("operation " + op + ", a lesser bound", rig, TRAPPED, at, 3);
            bytesAre("operation " + op + ", a lesser bound", rig, op, 3);
        }
    }

    private static void goingOnStepByStep() {
        for (int op : new int[] {Op.LOAD, Op.STORE, Op.LOADX}) {
            Rig rig = row(op, 0, 0);
            int at = rig.here() - 2;
            for (int bound = 1; bound < 8; bound++) {
                rig.m.limit(bound);
                CHECK.is("operation " + op + ": resume()", rig.m.resume(), bound - 1);
                rig.m.cycles(1);
                state("operation " + op + ", bound " + bound, rig, TRAPPED, at, bound);
                CHECK.is("operation " + op + ", bound " + bound + ": steps", rig.m.queue(0, 1), 1);
                CHECK.badState("resume before the step is done", rig.m::resume);
                rig.m.cycles(1);
            }
            rig.m.limit(8);
            rig.m.resume();
            rig.m.cycles(3);
            state("operation " + op + " at the end", rig, HALTED, at + 1, 0);
            bytesAre("operation " + op + " step by step", rig, op, 8);
        }
    }

    private static void goingOnWithTheLastElement() {
        Rig rig = withMemory(8).set(2, 1).length(Rig.W1 + Rig.G4, 32).vector(Op.LOAD, 4, 0, 2).op(Op.HALT);
        rig.m.limit(31);
        rig.run(0);
        state("the last of 32 is bad", rig, TRAPPED, 3, 31);
        rig.m.limit(32);
        CHECK.is("resume()", rig.m.resume(), 31);
        rig.m.cycles(1);
        CHECK.is("one step is left", rig.m.queue(0, 1), 1);
        rig.m.cycles(2);
        CHECK.is("the last element", rig.m.file(63), value(31));
        CHECK.is("steps in all", rig.m.about(10), 32);
    }

    private static void theNextInstructionBeginsAtZero() {
        Rig rig = withMemory(8).set(2, 1).length(Rig.W1, 8).vector(Op.LOAD, 3, 0, 2).vector(Op.PLUS, 4, 3, 3).op(Op.HALT);
        rig.m.limit(6);
        rig.run(0);
        rig.m.limit(8);
        rig.m.resume();
        rig.m.cycles(2);
        CHECK.is("PLUS has all its steps", rig.m.queue(rig.m.about(8) - 1, 1), 8);
        rig.m.cycles(10);
        CHECK.is("element 0 of PLUS", rig.m.file(32), 2 * value(0));
    }

    private static void goForgetsTheStart() {
        Rig rig = withMemory(8).set(2, 1).length(Rig.W1, 8).vector(Op.LOAD, 3, 0, 2).op(Op.HALT);
        rig.m.limit(6);
        rig.run(0);
        state("trapped", rig, TRAPPED, 3, 6);
        CHECK.is("go(3)", rig.m.go(3), 3);
        CHECK.is("the start", rig.m.about(5), 0);
        rig.m.cycles(1);
        CHECK.is("it begins again", rig.m.queue(0, 1), 6);
        state("trapped again", rig, TRAPPED, 3, 6);
    }

    /** Eight elements by this mask byte, from place xa on; instruction 6 does them. LOADX has them all at one place. */
    private static Rig masked(int op, int mask, int xa, int bound) {
        Rig rig = withMemory(2).set(1, xa).set(2, 1).set(5, mask).length(Rig.W1, 8).vector(Op.PLUSX, 0, 3, 5);
        rig.m.put(op, 6, 1, op == Op.LOADX ? 3 : 2, 0, true);
        rig.op(Op.HALT);
        rig.m.limit(bound);
        return rig.run(0);
    }

    private static void leftOutElementsAreNeverBad() {
        for (int op : OPS) {
            state("operation " + op + ", none", masked(op, 0, 1000, 0), HALTED, 7, 0);
            state("operation " + op + ", the first", masked(op, 1, 1000, 0), TRAPPED, 6, 0);
            boolean isCut = op == Op.LOADF;
            Rig last = masked(op, 0x80, 1000, 0);
            state("operation " + op + ", the last", last, isCut ? HALTED : TRAPPED, isCut ? 7 : 6, isCut ? 0 : 7);
            CHECK.is("operation " + op + ", the last: vl", last.m.about(4), isCut ? 7 : 8);
            CHECK.is("operation " + op + ", the last: steps", last.m.about(10), 8 + 7);
        }
        state("LOAD of good ones with bad ones between", masked(Op.LOAD, 0b00001111, 124, 128), HALTED, 7, 0);
        state("STORE of good ones with bad ones behind", masked(Op.STORE, 0b00000111, 124, 127), HALTED, 7, 0);
        state("LOAD of one more", masked(Op.LOAD, 0b00011111, 124, 128), TRAPPED, 6, 4);
    }

    private static void goingOnKeepsToTheMask() {
        Rig rig = masked(Op.LOAD, 0b11010110, 0, 4);
        state("bit 4 is bad", rig, TRAPPED, 6, 4);
        rig.m.limit(6);
        CHECK.is("resume()", rig.m.resume(), 4);
        rig.m.cycles(5);
        state("bit 5 is left out, bit 6 is bad", rig, TRAPPED, 6, 6);
        rig.m.limit(128);
        CHECK.is("resume() again", rig.m.resume(), 6);
        rig.m.cycles(5);
        state("at the end", rig, HALTED, 7, 0);
        for (int i = 0; i < 8; i++) {
            CHECK.is("element " + i, rig.m.file(48 + i), (0b11010110 >> i & 1) == 1 ? value(i) : 0);
        }
        CHECK.is("steps in all", rig.m.about(10), 8 + 8);
    }

    private static void loadfCutsAtEachElement() {
        for (int bad = 1; bad < 32; bad++) {
            Rig rig = withMemory(8).set(2, 1).length(Rig.W1 + Rig.G4, 32).vector(Op.LOADF, 4, 0, 2).op(Op.HALT);
            rig.m.limit(bad);
            rig.run(0);
            state("LOADF, bad " + bad, rig, HALTED, 4, 0);
            CHECK.is("LOADF, bad " + bad + ": vl", rig.m.about(4), bad);
            CHECK.is("LOADF, bad " + bad + ": steps", rig.m.about(10), bad);
            CHECK.is("LOADF, bad " + bad + ": the last", rig.m.file(31 + bad), value(bad - 1));
            CHECK.is("LOADF, bad " + bad + ": the bad one", rig.m.file(32 + bad), 0);
            CHECK.is("LOADF, bad " + bad + ": x7 keeps the length", rig.m.scalar(7), 32);
        }
    }

    private static void loadfThatIsTrappedCanBeCutLater() {
        Rig rig = withMemory(8).set(2, 4).length(Rig.W4 + Rig.G4, 8).vector(Op.LOADF, 4, 0, 2).op(Op.HALT);
        rig.m.limit(3);
        rig.run(0);
        state("no element", rig, TRAPPED, 3, 0);
        CHECK.is("the length stays", rig.m.about(4), 8);
        rig.m.limit(4);
        CHECK.is("resume()", rig.m.resume(), 0);
        rig.m.cycles(3);
        state("one element", rig, HALTED, 4, 0);
        CHECK.is("the length is 1", rig.m.about(4), 1);
        CHECK.is("element 0", rig.element(4, 0, 4), inMemory(0, 4));
    }

    private static void loadfWithoutABadOneKeepsTheLength() {
        for (int power = 0; power < 3; power++) {
            int length = 32 >> power;
            Rig rig = withMemory(8).set(1, 128 - 32).set(2, 1 << power).length(power + Rig.G4, 32);
            rig.vector(Op.LOADF, 4, 1, 2).op(Op.HALT).run(0);
            state("LOADF up to the last byte", rig, HALTED, 5, 0);
            CHECK.is("LOADF up to the last byte: vl", rig.m.about(4), length);
            CHECK.is("its last element", rig.element(4, length - 1, 1 << power), inMemory(128 - (1 << power), 1 << power));
        }
    }

    /** LIMIT waits until the LOAD ahead of it is done, so it cannot come between the check and the steps. */
    private static void theBoundOfTheHandOutCounts() {
        Rig rig = withMemory(1).set(2, 1).length(Rig.W1, 8).vector(Op.LOAD, 3, 0, 2).vector(Op.LIMIT, 0, 0, 0);
        rig.vector(Op.LOAD, 4, 0, 2).op(Op.HALT).run(0);
        for (int i = 0; i < 8; i++) {
            CHECK.is("loaded ahead of LIMIT, " + i, rig.m.file(24 + i), value(i));
        }
        state("the LOAD behind it", rig, TRAPPED, 5, 0);
    }

    private static void pokeReachesBeyondTheBound() {
        Rig rig = withMemory(1);
        rig.m.limit(0);
        CHECK.holds("poke(0, 1) under a bound of 0", rig.m.poke(0, 1));
        CHECK.holds("poke(127, 2) under a bound of 0", rig.m.poke(127, 2));
        CHECK.is("memory(0)", rig.m.memory(0), 1);
        CHECK.is("memory(127)", rig.m.memory(127), 2);
        CHECK.is("memory(64)", rig.m.memory(64), value(64));
    }
}
