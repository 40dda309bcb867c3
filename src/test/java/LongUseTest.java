import com.sun.management.ThreadMXBean;
import java.lang.management.ManagementFactory;

/** "What it is": an object is used for at most 512 calls, and answers as due up to the last of them. */
public final class LongUseTest {
    private static final int CALLS = 512;
    private static final Check CHECK = new Check("LongUseTest");

    public static void main(String[] args) {
        fiveHundredAndTwelveScalarCalls();
        fiveHundredAndTwelveVectorCalls();
        fiveHundredAndTwelveTraps();
        cyclesMakeNoObjects();
        CHECK.end();
    }

    /** Two instructions that count in x1 for ever; two calls for them, one for go. */
    private static void fiveHundredAndTwelveScalarCalls() {
        LaneMachine m = new LaneMachine(1);
        m.put(Op.ADDN, 1, 1, 0, 1, false);
        m.put(Op.UNLIKE, 0, 1, 0, 0, false);
        m.go(0);
        int calls = 3;
        int cycles = 0;
        while (calls < CALLS - 2) {
            cycles += 200;
            calls++;
            CHECK.is("call " + calls + ", cycles(200)", m.cycles(200), cycles);
        }
        CHECK.is("call 511, about(7)", m.about(7), cycles);
        CHECK.is("call 512, scalar(1)", m.scalar(1), cycles / 2);
    }

    /** Puts a PLUSX over 32 elements that is handed out for ever, so that unit 0 does 8 steps in every cycle. */
    private static LaneMachine busy() {
        Rig rig = new Rig(8).set(6, 1).length(Rig.W1 + Rig.G4, 32).vector(Op.PLUSX, 4, 4, 6);
        rig.m.put(Op.UNLIKE, 0, 6, 0, 3, false);
        rig.m.go(0);
        return rig.m;
    }

    private static void fiveHundredAndTwelveVectorCalls() {
        LaneMachine m = busy();
        int calls = 6;
        int cycles = 0;
        while (calls < CALLS - 4) {
            cycles += 200;
            calls++;
            CHECK.is("call " + calls + ", cycles(200)", m.cycles(200), cycles);
        }
        int steps = 8 * (cycles - 4);
        CHECK.is("call 509, about(10)", m.about(10), steps);
        CHECK.is("call 510, file(32)", m.file(32), (byte) (steps / 32));
        CHECK.is("call 511, file(63)", m.file(63), (byte) (steps / 32));
        CHECK.is("call 512, about(8)", m.about(8), 4);
    }

    /** Every second call finds the machine trapped at its first element again. */
    private static void fiveHundredAndTwelveTraps() {
        Rig rig = new Rig(3).set(1, 100).length(Rig.W4, 2).vector(Op.STORE, 2, 1, 1);
        rig.m.limit(100);
        rig.m.go(0);
        rig.m.cycles(4);
        int calls = 7;
        while (calls < CALLS - 1) {
            CHECK.is("call " + (calls + 1) + ", resume()", rig.m.resume(), 0);
            rig.m.cycles(1);
            calls += 2;
        }
        CHECK.is("call 512, about(0)", rig.m.about(0), LaneMachine.TRAPPED);
    }

    /** All calls of a run live in one room, so the dearest of them must not fill it. */
    private static void cyclesMakeNoObjects() {
        if (!(ManagementFactory.getThreadMXBean() instanceof ThreadMXBean bean)) {
            return;
        }
        LaneMachine first = busy();
        first.cycles(200);
        first.about(0);
        LaneMachine m = busy();
        long thread = Thread.currentThread().getId();
        long before = bean.getThreadAllocatedBytes(thread);
        for (int i = 0; i < 500; i++) {
            m.cycles(200);
        }
        long made = bean.getThreadAllocatedBytes(thread) - before;
        CHECK.holds("500 calls of cycles(200) made " + made + " bytes of objects", made < 100000);
    }
}
