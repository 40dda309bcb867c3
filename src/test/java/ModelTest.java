import java.util.Random;

/**
 * Runs of drawn calls, the same ones every time, each answer held against the model, some of the state after each
 * call and all of it at a run's end. A run stays under the 512 calls that the document promises anything for.
 */
public final class ModelTest {
    private static final int RUNS = 20000;
    private static final int MOST_CALLS = 12;
    private static final int POKES = 60;
    private static final Check CHECK = new Check("ModelTest");

    private final Random draw;
    private final LaneMachine machine;
    private final Model model;
    private String last = "new";
    private int[] seen = new int[4];

    private ModelTest(int run) {
        draw = new Random(run);
        int lanes = draw.nextInt(12) - 1;
        machine = new LaneMachine(lanes);
        model = new Model(lanes);
    }

    public static void main(String[] args) {
        int[] states = new int[4];
        int[] handed = new int[21];
        for (int run = 0; run < RUNS; run++) {
            ModelTest one = new ModelTest(run);
            one.play(run);
            for (int i = 0; i < 4; i++) {
                states[i] += one.seen[i];
            }
            for (Model.Inst inst : one.model.program) {
                handed[inst.op]++;
            }
        }
        for (int i = 0; i < 4; i++) {
            CHECK.holds("state " + i + " was seen often: " + states[i], states[i] > RUNS / 4);
        }
        for (int op = 0; op < 21; op++) {
            CHECK.holds("operation " + op + " was put often: " + handed[op], handed[op] > RUNS / 4);
        }
        CHECK.end();
    }

    private void play(int run) {
        for (int i = 0; i < POKES; i++) {
            int k = draw.nextInt(8) == 0 ? draw.nextInt(128) : i;
            int v = draw.nextInt(3) == 0 ? draw.nextInt(256) : draw.nextInt(40);
            machine.poke(k, v);
            model.poke(k, v);
        }
        writeProgram();
        machine.go(0);
        model.go(0);
        drawnCycles(1 + draw.nextInt(80));
        int most = draw.nextInt(MOST_CALLS);
        StringBuilder wrong = new StringBuilder();
        for (int call = 0; call < most && wrong.length() == 0; call++) {
            wrong.append(drawnCall());
            seen[model.state]++;
            lookAtQueue(wrong);
        }
        lookAtAll(wrong);
        CHECK.holds("run " + run + ", up to " + last + " as due, but " + wrong, wrong.length() == 0);
    }

    /** A start that fills registers and scalars, then instructions of all kinds, most of them legal. */
    private void writeProgram() {
        put(Op.SET, 1, 0, 0, 32, false);
        put(Op.CONFIGURE, 0, 1, 0, 8, false);
        put(Op.SET, 2, 0, 0, 1, false);
        put(Op.LOAD, 0, 0, 2, 0, false);
        put(Op.LOAD, 4, 1, 2, 0, false);
        int setting = drawnSetting();
        put(Op.SET, 1, 0, 0, 1 + draw.nextInt(32), false);
        put(Op.CONFIGURE, draw.nextInt(4) == 0 ? 3 : 0, 1, 0, setting, false);
        put(Op.SET, 3, 0, 0, draw.nextInt(7) - 2, false);
        put(Op.SET, 4, 0, 0, draw.nextInt(100), false);
        put(Op.SET, 5, 0, 0, drawnNumber(), false);
        int more = 8 + draw.nextInt(22);
        for (int i = 0; i < more; i++) {
            setting = drawnInstruction(setting);
        }
        if (draw.nextInt(4) != 0) {
            put(Op.HALT, 0, 0, 0, 0, false);
        }
    }

    private int drawnSetting() {
        return draw.nextInt(3) + 4 * draw.nextInt(3);
    }

    private int drawnNumber() {
        switch (draw.nextInt(6)) {
            case 0: return draw.nextInt();
            case 1: return Integer.MIN_VALUE + draw.nextInt(3);
            case 2: return Integer.MAX_VALUE - draw.nextInt(3);
            case 3: return 1 << draw.nextInt(32);
            default: return draw.nextInt(140) - 6;
        }
    }

    private int drawnRegister(int group) {
        return draw.nextInt(25) == 0 ? draw.nextInt(8) : draw.nextInt(8) / group * group;
    }

    private int drawnInstruction(int setting) {
        int group = 1 << setting / 4;
        int op = draw.nextInt(3) == 0 ? draw.nextInt(8) : 8 + draw.nextInt(13);
        int d = draw.nextInt(8);
        int a = draw.nextInt(8);
        int b = draw.nextInt(8);
        int n = drawnNumber();
        boolean masked = draw.nextInt(3) == 0;
        if (op == Op.HALT && draw.nextInt(4) != 0) {
            op = Op.PLUS;
        }
        if (op == Op.UNLIKE) {
            n = draw.nextInt(20) == 0 ? n : model.program.size() + draw.nextInt(4) - (draw.nextInt(3) == 0 ? 6 : 0);
        } else if (op == Op.CONFIGURE) {
            n = drawnSetting();
            put(op, d, 1 + draw.nextInt(4), b, n, masked);
            return n;
        } else if (op >= Op.PLUS) {
            int wide = op == Op.WIDE ? Math.min(8, 2 * group) : group;
            d = draw.nextInt(25) == 0 ? d : d / wide * wide;
            if (masked && d == 0 && draw.nextInt(8) != 0) {
                d = 8 - wide == 0 ? 0 : 8 - wide;
            }
            boolean isScalarA = op >= Op.LOAD;
            boolean isScalarB = op >= Op.LOAD && op != Op.LOADX || op == Op.PLUSX || op == Op.SLIDE;
            a = isScalarA ? a : drawnRegister(group);
            b = isScalarB ? b : drawnRegister(group);
            if (isScalarA && draw.nextInt(4) != 0) {
                a = 2 + draw.nextInt(3);
                b = isScalarB ? 2 + draw.nextInt(2) : b;
            }
        }
        put(op, d, a, b, n, masked);
        return setting;
    }

    private void put(int op, int d, int a, int b, int n, boolean masked) {
        if (model.program.size() < 40) {
            machine.put(op, d, a, b, n, masked);
            model.put(op, d, a, b, n, masked);
        }
    }

    private interface Call {
        long on();
    }

    private static String answer(Call call) {
        try {
            return Long.toString(call.on());
        } catch (RuntimeException e) {
            return e.getClass().getSimpleName();
        }
    }

    private String both(String name, Call onMachine, Call onModel) {
        last = name;
        String got = answer(onMachine);
        String due = answer(onModel);
        return got.equals(due) ? "" : "answered " + got + ", due is " + due + " ";
    }

    private String drawnCall() {
        switch (draw.nextInt(14)) {
            case 0: return drawnPoke();
            case 1: return drawnLimit();
            case 2: return drawnGo();
            case 3: return drawnPut();
            case 4: return both("resume()", machine::resume, model::resume);
            case 5: return drawnCycles(draw.nextInt(220) - 5);
            default: return model.state == 2 && model.queue.isEmpty() && draw.nextBoolean()
                    ? both("resume()", machine::resume, model::resume) : drawnCycles(1 + draw.nextInt(5));
        }
    }

    private String drawnPoke() {
        int k = draw.nextInt(132) - 2;
        int v = draw.nextInt(390) - 131;
        return both("poke(" + k + ", " + v + ")", () -> machine.poke(k, v) ? 1 : 0, () -> model.poke(k, v) ? 1 : 0);
    }

    private String drawnLimit() {
        int n = draw.nextInt(132) - 2;
        return both("limit(" + n + ")", () -> machine.limit(n) ? 1 : 0, () -> model.limit(n) ? 1 : 0);
    }

    private String drawnGo() {
        int at = draw.nextInt(44) - 2;
        return both("go(" + at + ")", () -> machine.go(at), () -> model.go(at));
    }

    private String drawnPut() {
        int op = draw.nextInt(23) - 1;
        int d = draw.nextInt(10) - 1;
        int a = draw.nextInt(10) - 1;
        int b = draw.nextInt(10) - 1;
        int n = draw.nextInt(14) - 1;
        boolean masked = draw.nextBoolean();
        return both("put(" + op + ", " + d + ", " + a + ", " + b + ", " + n + ", " + masked + ")",
                () -> machine.put(op, d, a, b, n, masked), () -> model.put(op, d, a, b, n, masked));
    }

    private String drawnCycles(int n) {
        return both("cycles(" + n + ")", () -> machine.cycles(n), () -> model.cycles(n));
    }

    private void lookAtQueue(StringBuilder wrong) {
        for (int what : new int[] {0, 1, 5, 8, 10}) {
            compare(wrong, "about(" + what + ")", machine.about(what), model.about(what));
        }
        for (int i = 0; i < 4; i++) {
            compare(wrong, "queue(" + i + ", 2)", machine.queue(i, 2), model.queue(i, 2));
        }
    }

    private void lookAtAll(StringBuilder wrong) {
        for (int i = -1; i <= 11; i++) {
            compare(wrong, "about(" + i + ")", machine.about(i), model.about(i));
        }
        for (int i = -1; i <= 8; i++) {
            compare(wrong, "scalar(" + i + ")", machine.scalar(i), model.scalar(i));
        }
        for (int k = -1; k <= 64; k++) {
            compare(wrong, "file(" + k + ")", machine.file(k), model.file(k));
        }
        for (int k = -1; k <= 128; k++) {
            compare(wrong, "memory(" + k + ")", machine.memory(k), model.memory(k));
        }
        for (int i = -1; i <= 4; i++) {
            for (int what = -1; what <= 3; what++) {
                compare(wrong, "queue(" + i + ", " + what + ")", machine.queue(i, what), model.queue(i, what));
            }
        }
    }

    private static void compare(StringBuilder wrong, String call, int got, int due) {
        if (got != due) {
            wrong.append(call).append(" is ").append(got).append(", due is ").append(due).append("; ");
        }
    }
}
