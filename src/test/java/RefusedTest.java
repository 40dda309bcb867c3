/**
 * Promises 2 to 7: every call that is refused, in every state in which it is, with the exception that the document
 * names; and that it changes nothing, by a twin of the machine on which it was not called.
 */
public final class RefusedTest {
    private static final int[] FAR = {Integer.MIN_VALUE, Integer.MAX_VALUE};
    private static final Check CHECK = new Check("RefusedTest");

    private interface Maker {
        LaneMachine make();
    }

    private interface Calls {
        void on(String state, LaneMachine m);
    }

    public static void main(String[] args) {
        statesAreWhatTheirNamesSay();
        wrongPutsChangeNothing();
        wrongPlacesToGoChangeNothing();
        wrongNumbersOfCyclesChangeNothing();
        wrongPokesChangeNothing();
        wrongLimitsChangeNothing();
        whatARunningOneRefuses();
        whatAQueueRefuses();
        whatIsNotTrappedCannotResume();
        aFullProgramTakesNoMore();
        CHECK.end();
    }

    private static LaneMachine fresh() {
        return new LaneMachine(2);
    }

    /** Eight elements are loaded and added up; the program has 7 instructions. */
    private static Rig program(int lastOp) {
        Rig rig = new Rig(2);
        for (int k = 0; k < 8; k++) {
            rig.m.poke(k, 9 * k - 20);
        }
        rig.set(1, 1).length(Rig.W1, 8).vector(Op.LOAD, 2, 0, 1).vector(Op.PLUS, 4, 2, 2);
        return rig.vector(lastOp, 3, 3, 3).op(Op.HALT);
    }

    private static LaneMachine after(Rig rig, int cycles) {
        rig.m.go(0);
        rig.m.cycles(cycles);
        return rig.m;
    }

    private static LaneMachine runningWithAQueue() {
        return after(program(Op.FIRST), 5);
    }

    private static LaneMachine runningWithoutAQueue() {
        return after(program(Op.FIRST), 3);
    }

    private static LaneMachine haltedWithAQueue() {
        return after(program(Op.SET), 7);
    }

    private static LaneMachine haltedWithoutAQueue() {
        return after(program(Op.SET), 30);
    }

    private static Rig boundToFive() {
        Rig rig = program(Op.SET);
        rig.m.limit(5);
        return rig;
    }

    private static LaneMachine trappedWithAQueue() {
        return after(boundToFive(), 5);
    }

    private static LaneMachine trappedWithoutAQueue() {
        return after(boundToFive(), 30);
    }

    private static LaneMachine illegalWithAQueue() {
        return after(program(Op.SLIDE), 6);
    }

    private static LaneMachine illegalWithoutAQueue() {
        return after(program(Op.SLIDE), 30);
    }

    private static LaneMachine full() {
        Rig rig = program(Op.SET);
        while (rig.here() < 40) {
            rig.op(Op.HALT);
        }
        return after(rig, 30);
    }

    private static final String[] NAMES = {"fresh", "running, queue", "running", "halted, queue", "halted",
        "trapped, queue", "trapped", "illegal, queue", "illegal", "full"};

    private static final Maker[] MAKERS = {RefusedTest::fresh, RefusedTest::runningWithAQueue,
        RefusedTest::runningWithoutAQueue, RefusedTest::haltedWithAQueue, RefusedTest::haltedWithoutAQueue,
        RefusedTest::trappedWithAQueue, RefusedTest::trappedWithoutAQueue, RefusedTest::illegalWithAQueue,
        RefusedTest::illegalWithoutAQueue, RefusedTest::full};

    private static boolean isRunning(int state) {
        return NAMES[state].startsWith("running");
    }

    private static boolean hasAQueue(int state) {
        return NAMES[state].endsWith("queue");
    }

    private static void statesAreWhatTheirNamesSay() {
        int[] due = {1, 0, 0, 1, 1, 2, 2, 3, 3, 1};
        for (int i = 0; i < MAKERS.length; i++) {
            LaneMachine m = MAKERS[i].make();
            CHECK.is(NAMES[i] + ": state", m.about(0), due[i]);
            CHECK.holds(NAMES[i] + ": queue", m.about(8) > 0 == hasAQueue(i));
        }
        CHECK.is("the start of the trapped one", trappedWithoutAQueue().about(5), 5);
        CHECK.is("instructions of the full one", full().about(9), 40);
    }

    /** Does the calls on one of two twins, and holds them against one another, then and thirty cycles later. */
    private static void inState(int state, Calls calls) {
        LaneMachine touched = MAKERS[state].make();
        LaneMachine untouched = MAKERS[state].make();
        calls.on(NAMES[state], touched);
        String difference = new Snapshot(touched).differenceFrom(new Snapshot(untouched));
        CHECK.holds(NAMES[state] + ": nothing changed, but " + difference, difference.isEmpty());
        LaneMachine later = MAKERS[state].make();
        LaneMachine laterTwin = MAKERS[state].make();
        calls.on(NAMES[state], later);
        CHECK.is(NAMES[state] + ": cycles later", later.cycles(30), laterTwin.cycles(30));
        String changed = new Snapshot(later).differenceFrom(new Snapshot(laterTwin));
        CHECK.holds(NAMES[state] + ": nothing changed later, but " + changed, changed.isEmpty());
    }

    private static void inAllStates(Calls calls) {
        for (int state = 0; state < MAKERS.length; state++) {
            inState(state, calls);
        }
    }

    private static void wrongPutsChangeNothing() {
        inAllStates((name, m) -> {
            for (int wrong : new int[] {-1, 21, FAR[0], FAR[1]}) {
                CHECK.badArgument(name + ": put with op " + wrong, () -> m.put(wrong, 0, 0, 0, 0, false));
            }
            for (int wrong : new int[] {-1, 8, FAR[0], FAR[1]}) {
                CHECK.badArgument(name + ": put with d " + wrong, () -> m.put(Op.SET, wrong, 0, 0, 0, false));
                CHECK.badArgument(name + ": put with a " + wrong, () -> m.put(Op.SET, 0, wrong, 0, 0, false));
                CHECK.badArgument(name + ": put with b " + wrong, () -> m.put(Op.SET, 0, 0, wrong, 0, false));
            }
            for (int wrong : new int[] {-1, 3, 7, 11, FAR[0], FAR[1]}) {
                CHECK.badArgument(name + ": put of CONFIGURE " + wrong, () -> m.put(Op.CONFIGURE, 0, 0, 0, wrong, true));
            }
        });
    }

    private static void wrongPlacesToGoChangeNothing() {
        inAllStates((name, m) -> {
            for (int wrong : new int[] {-1, m.about(9), FAR[0], FAR[1]}) {
                CHECK.badArgument(name + ": go(" + wrong + ")", () -> m.go(wrong));
            }
        });
    }

    private static void wrongNumbersOfCyclesChangeNothing() {
        inAllStates((name, m) -> {
            for (int wrong : new int[] {0, -1, 201, FAR[0], FAR[1]}) {
                CHECK.badArgument(name + ": cycles(" + wrong + ")", () -> m.cycles(wrong));
            }
        });
    }

    private static void wrongPokesChangeNothing() {
        inAllStates((name, m) -> {
            for (int wrong : new int[] {-1, 128, FAR[0], FAR[1]}) {
                CHECK.badArgument(name + ": poke(" + wrong + ", 7)", () -> m.poke(wrong, 7));
            }
            for (int wrong : new int[] {-129, 256, FAR[0], FAR[1]}) {
                CHECK.badArgument(name + ": poke(7, " + wrong + ")", () -> m.poke(7, wrong));
            }
        });
    }

    private static void wrongLimitsChangeNothing() {
        inAllStates((name, m) -> {
            for (int wrong : new int[] {-1, 129, FAR[0], FAR[1]}) {
                CHECK.badArgument(name + ": limit(" + wrong + ")", () -> m.limit(wrong));
            }
        });
    }

    private static void whatARunningOneRefuses() {
        for (int state = 0; state < MAKERS.length; state++) {
            if (isRunning(state)) {
                inState(state, (name, m) -> {
                    CHECK.badState(name + ": put", () -> m.put(Op.SET, 1, 0, 0, 1, false));
                    CHECK.badState(name + ": go(0)", () -> m.go(0));
                    CHECK.badState(name + ": resume()", m::resume);
                    CHECK.badState(name + ": limit(0)", () -> m.limit(0));
                    CHECK.badState(name + ": limit(128)", () -> m.limit(128));
                });
            } else if (!NAMES[state].equals("full")) {
                LaneMachine m = MAKERS[state].make();
                CHECK.is(NAMES[state] + ": put", m.put(Op.SET, 1, 0, 0, 1, false), m.about(9) - 1);
            }
        }
    }

    private static void whatAQueueRefuses() {
        for (int state = 0; state < MAKERS.length; state++) {
            if (hasAQueue(state)) {
                inState(state, (name, m) -> {
                    CHECK.badState(name + ": go(0)", () -> m.go(0));
                    CHECK.badState(name + ": go(6)", () -> m.go(6));
                    CHECK.badState(name + ": resume()", m::resume);
                    CHECK.badState(name + ": limit(3)", () -> m.limit(3));
                });
            } else if (!isRunning(state) && state != 0) {
                CHECK.is(NAMES[state] + ": go(6)", MAKERS[state].make().go(6), 6);
                CHECK.holds(NAMES[state] + ": limit(3)", MAKERS[state].make().limit(3));
            }
        }
        CHECK.holds("fresh: limit(3)", fresh().limit(3));
    }

    private static void whatIsNotTrappedCannotResume() {
        for (int state = 0; state < MAKERS.length; state++) {
            if (!NAMES[state].equals("trapped")) {
                inState(state, (name, m) -> CHECK.badState(name + ": resume()", m::resume));
            }
        }
        CHECK.is("trapped: resume()", trappedWithoutAQueue().resume(), 5);
    }

    private static void aFullProgramTakesNoMore() {
        inState(MAKERS.length - 1, (name, m) -> {
            for (int op = 0; op <= 20; op++) {
                int each = op;
                CHECK.badState(name + ": put of " + op, () -> m.put(each, 1, 2, 3, 0, true));
            }
        });
    }
}
