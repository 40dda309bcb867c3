/**
 * A machine with vector registers, whose units work on elements of several instructions at once.
 *
 * <p>Every row is made in the constructor and used again, so that a long run makes no more objects
 * than one for each instruction that is put.
 */
public final class LaneMachine {
    public static final int NONE = -1;
    public static final int RUNS = 0;
    public static final int HALTED = 1;
    public static final int TRAPPED = 2;
    public static final int ILLEGAL = 3;

    private static final int SET = 0;
    private static final int ADD = 1;
    private static final int ADDN = 2;
    private static final int UNLIKE = 3;
    private static final int HALT = 4;
    private static final int LIMIT = 5;
    private static final int CONFIGURE = 6;
    private static final int FIRST = 7;
    private static final int PLUS = 8;
    private static final int MINUS = 9;
    private static final int TIMES = 10;
    private static final int PLUSX = 11;
    private static final int LESS = 12;
    private static final int WIDE = 13;
    private static final int SUM = 14;
    private static final int SLIDE = 15;
    private static final int GATHER = 16;
    private static final int LOAD = 17;
    private static final int STORE = 18;
    private static final int LOADX = 19;
    private static final int LOADF = 20;

    private static final int MOST_LANES = 8;
    private static final int SCALARS = 8;
    private static final int REGISTERS = 8;
    private static final int REGISTER_BYTES = 8;
    private static final int MEMORY_BYTES = 128;
    private static final int MOST_INSTRUCTIONS = 40;
    private static final int QUEUE_PLACES = 4;
    private static final int UNITS = 3;
    private static final int MEMORY_UNIT = 2;
    private static final int MOST_STEPS = 32;
    private static final int MOST_CYCLES = 200;

    private final int lanes;
    private final int[] x;
    private final Bytes registers;
    private final Bytes cells;
    private final Setting setting;
    private final Instruction[] program;
    private final Work[] works;
    private int programSize;
    private int queued;
    private int state;
    private int next;
    private int bound;
    private int cyclesDone;
    private int stepsDone;

    public LaneMachine(int lanes) {
        this.lanes = Math.max(1, Math.min(MOST_LANES, lanes));
        x = new int[SCALARS];
        registers = new Bytes(REGISTERS * REGISTER_BYTES);
        cells = new Bytes(MEMORY_BYTES);
        setting = new Setting();
        program = new Instruction[MOST_INSTRUCTIONS];
        works = new Work[QUEUE_PLACES];
        Instruction nothing = new Instruction(HALT, 0, 0, 0, 0, false);
        for (int i = 0; i < QUEUE_PLACES; i++) {
            works[i] = new Work(registers, cells, nothing);
        }
        state = HALTED;
        bound = MEMORY_BYTES;
    }

    public int put(int op, int d, int a, int b, int n, boolean masked)
            throws IllegalArgumentException, IllegalStateException {
        if (op < SET || op > LOADF || !isRegister(d) || !isRegister(a) || !isRegister(b)) {
            throw new IllegalArgumentException();
        }
        if (op == CONFIGURE && !Setting.isCode(n)) {
            throw new IllegalArgumentException();
        }
        if (state == RUNS || programSize >= MOST_INSTRUCTIONS) {
            throw new IllegalStateException();
        }
        program[programSize] = new Instruction(op, d, a, b, n, masked);
        programSize++;
        return programSize - 1;
    }

    public int go(int at) throws IllegalArgumentException, IllegalStateException {
        if (at < 0 || at >= programSize) {
            throw new IllegalArgumentException();
        }
        if (state == RUNS || queued > 0) {
            throw new IllegalStateException();
        }
        next = at;
        setting.start = 0;
        state = RUNS;
        return at;
    }

    public int resume() throws IllegalStateException {
        if (state != TRAPPED || queued > 0) {
            throw new IllegalStateException();
        }
        state = RUNS;
        return setting.start;
    }

    public int cycles(int n) throws IllegalArgumentException {
        if (n < 1 || n > MOST_CYCLES) {
            throw new IllegalArgumentException();
        }
        for (int i = 0; i < n; i++) {
            cyclesDone++;
            noteStepsDone();
            for (int unit = 0; unit < UNITS; unit++) {
                workUnit(unit);
            }
            dropFinished();
            if (state == RUNS) {
                advance();
            }
        }
        return cyclesDone;
    }

    public boolean poke(int k, int v) throws IllegalArgumentException {
        if (k < 0 || k >= MEMORY_BYTES || v < -128 || v > 255) {
            throw new IllegalArgumentException();
        }
        cells.write(k, 1, v);
        return true;
    }

    public boolean limit(int n) throws IllegalArgumentException, IllegalStateException {
        if (n < 0 || n > MEMORY_BYTES) {
            throw new IllegalArgumentException();
        }
        if (state == RUNS || queued > 0) {
            throw new IllegalStateException();
        }
        bound = n;
        return true;
    }

    public int scalar(int i) {
        return i >= 0 && i < SCALARS ? x[i] : 0;
    }

    public int file(int k) {
        return registers.number(k, 1);
    }

    public int memory(int k) {
        return cells.number(k, 1);
    }

    public int about(int what) {
        switch (what) {
            case 0: return state;
            case 1: return next;
            case 2: return setting.width();
            case 3: return setting.group();
            case 4: return setting.length;
            case 5: return setting.start;
            case 6: return bound;
            case 7: return cyclesDone;
            case 8: return queued;
            case 9: return programSize;
            case 10: return stepsDone;
            default: return NONE;
        }
    }

    public int queue(int i, int what) {
        if (i < 0 || i >= queued || i >= QUEUE_PLACES) {
            return NONE;
        }
        Work work = works[i];
        switch (what) {
            case 0: return work.number;
            case 1: return work.steps();
            case 2: return work.done;
            default: return NONE;
        }
    }

    private static boolean isRegister(int r) {
        return r >= 0 && r < REGISTERS;
    }

    /** Steps of the same cycle must not free one another, in whatever order the units come. */
    private void noteStepsDone() {
        for (int i = 0; i < queued && i < QUEUE_PLACES; i++) {
            works[i].doneBefore = works[i].done;
        }
    }

    private void workUnit(int unit) {
        long readsAhead = 0;
        long writesAhead = 0;
        for (int i = 0; i < queued && i < QUEUE_PLACES; i++) {
            Work work = works[i];
            if (work.what.unit() == unit) {
                for (int lane = 0; lane < lanes && work.isNextStepFree(readsAhead, writesAhead); lane++) {
                    work.doNextStep();
                    stepsDone++;
                }
                return;
            }
            readsAhead |= work.readsFromStep(work.doneBefore);
            writesAhead |= work.writesFromStep(work.doneBefore);
        }
    }

    private void dropFinished() {
        int kept = 0;
        for (int i = 0; i < queued && i < QUEUE_PLACES; i++) {
            Work work = works[i];
            if (!work.isDone()) {
                // Changing places keeps the finished one's object for a later instruction.
                works[i] = works[kept];
                works[kept] = work;
                kept++;
            }
        }
        queued = kept;
    }

    private void advance() {
        Instruction what = next >= 0 && next < programSize && next < MOST_INSTRUCTIONS ? program[next] : null;
        if (what == null || setting.forbids(what)) {
            state = ILLEGAL;
        } else if (what.isVector()) {
            if (queued < QUEUE_PLACES && !mustWaitForQueue(what)) {
                handOut(what, works[queued]);
            }
        } else if (queued == 0 || !what.needsEmptyQueue()) {
            doScalar(what);
        }
    }

    private void doScalar(Instruction what) {
        int following = next + 1;
        switch (what.op) {
            case SET:
                setScalar(what.d, what.n);
                break;
            case ADD:
                setScalar(what.d, scalar(what.a) + scalar(what.b));
                break;
            case ADDN:
                setScalar(what.d, scalar(what.a) + what.n);
                break;
            case UNLIKE:
                following = scalar(what.a) != scalar(what.b) ? what.n : following;
                break;
            case LIMIT:
                bound = Math.max(0, Math.min(MEMORY_BYTES, scalar(what.a)));
                break;
            case CONFIGURE:
                setting.configure(what.n, scalar(what.a));
                setScalar(what.d, setting.length);
                break;
            case FIRST:
                setScalar(what.d, registers.number(REGISTER_BYTES * what.a, setting.width()));
                break;
            default:
                state = HALTED;
                following = next;
                break;
        }
        next = following;
    }

    private void setScalar(int i, int v) {
        if (i > 0 && i < SCALARS) {
            x[i] = v;
        }
    }

    /** A check of places must see the mask and the index register as all instructions ahead leave them. */
    private boolean mustWaitForQueue(Instruction what) {
        if (what.unit() != MEMORY_UNIT) {
            return false;
        }
        long needed = what.masked ? Work.span(0, REGISTER_BYTES) : 0;
        if (what.op == LOADX) {
            needed |= Work.span(REGISTER_BYTES * what.b, REGISTER_BYTES * setting.group());
        }
        for (int i = 0; i < queued && i < QUEUE_PLACES; i++) {
            Work work = works[i];
            if (work.what.unit() == MEMORY_UNIT || (work.writesFromStep(work.done) & needed) != 0) {
                return true;
            }
        }
        return false;
    }

    private void handOut(Instruction what, Work work) {
        work.take(what, next, setting, scalar(what.a), scalar(what.b));
        int bad = what.unit() == MEMORY_UNIT ? work.firstBad(bound) : NONE;
        if (bad != NONE) {
            work.to = bad;
        }
        if (work.steps() > 0) {
            work.foresee();
            queued++;
        }
        if (bad == NONE) {
            setting.start = 0;
            next++;
        } else if (what.op == LOADF && bad > 0) {
            setting.length = bad;
            setting.start = 0;
            next++;
        } else {
            setting.start = bad;
            state = TRAPPED;
        }
    }

    private static final class Instruction {
        final int op;
        final int d;
        final int a;
        final int b;
        final int n;
        final boolean masked;

        Instruction(int op, int d, int a, int b, int n, boolean masked) {
            this.op = op;
            this.d = d;
            this.a = a;
            this.b = b;
            this.n = n;
            this.masked = masked;
        }

        boolean isVector() {
            return op >= PLUS;
        }

        boolean needsEmptyQueue() {
            return op == FIRST || op == CONFIGURE || op == LIMIT;
        }

        int unit() {
            if (op >= LOAD) {
                return MEMORY_UNIT;
            }
            return op == TIMES || op >= SUM ? 1 : 0;
        }

        /** LESS has a row of mask bits there, and SUM one element. */
        boolean hasGroupAtD() {
            return op != LESS && op != SUM;
        }

        boolean hasGroupAtA() {
            return op <= GATHER;
        }

        boolean hasGroupAtB() {
            return op == LOADX || op <= GATHER && op != PLUSX && op != SLIDE && op != SUM;
        }
    }

    /** Width and group are kept as powers of two, so that nothing has to be divided by them. */
    private static final class Setting {
        private int widthPower;
        private int groupPower;
        int length;
        int start;

        static boolean isCode(int n) {
            return n >= 0 && n <= 10 && n % 4 != 3;
        }

        int width() {
            return 1 << widthPower;
        }

        int group() {
            return 1 << groupPower;
        }

        int most() {
            return (REGISTER_BYTES << groupPower) >> widthPower;
        }

        void configure(int code, int wanted) {
            widthPower = code % 4;
            groupPower = code / 4;
            length = Math.max(0, Math.min(most(), wanted));
            start = 0;
        }

        boolean forbids(Instruction what) {
            return what.isVector()
                    && (isMisplaced(what) || spoilsMask(what) || spoilsSources(what) || isTooWide(what));
        }

        private boolean isMisplaced(Instruction what) {
            int groupAtD = what.op == WIDE ? 2 * group() : group();
            return what.hasGroupAtD() && !isMultiple(what.d, groupAtD)
                    || what.hasGroupAtA() && !isMultiple(what.a, group())
                    || what.hasGroupAtB() && !isMultiple(what.b, group());
        }

        /** Every group is a power of two. */
        private static boolean isMultiple(int r, int group) {
            return (r & (group - 1)) == 0;
        }

        /** A d that is a multiple of its group has register 0 only if it is register 0. */
        private static boolean spoilsMask(Instruction what) {
            return what.masked && what.d == 0 && what.op != LESS && what.op != STORE;
        }

        private boolean spoilsSources(Instruction what) {
            switch (what.op) {
                case SLIDE: return what.d == what.a;
                case GATHER: return what.d == what.a || what.d == what.b;
                case WIDE: return isInWideGroup(what.d, what.a) || isInWideGroup(what.d, what.b);
                default: return false;
            }
        }

        private boolean isInWideGroup(int d, int r) {
            return r >= d && r < d + 2 * group();
        }

        private boolean isTooWide(Instruction what) {
            return what.op == WIDE && (width() == 4 || group() == 4);
        }
    }

    /** Places that do not exist read as 0 and are not written, so that no index can ever be wrong. */
    private static final class Bytes {
        private final byte[] row;

        Bytes(int size) {
            row = new byte[size];
        }

        int number(int from, int width) {
            int unused = 32 - 8 * width;
            return bareNumber(from, width) << unused >> unused;
        }

        /** Without sign; one of four bytes beyond an int's reach comes as the int with the same bits. */
        int bareNumber(int from, int width) {
            int v = 0;
            if (from >= 0 && from <= row.length - width) {
                for (int i = width - 1; i >= 0; i--) {
                    v = (v << 8) | (row[from + i] & 255);
                }
            }
            return v;
        }

        void write(int from, int width, int v) {
            if (from >= 0 && from <= row.length - width) {
                for (int i = 0; i < width; i++) {
                    row[from + i] = (byte) (v >> (8 * i));
                }
            }
        }
    }

    /**
     * An instruction in the queue, with the setting and scalars of the moment it was handed out.
     *
     * <p>The file has 64 bytes, so a set of its bytes is a long: bit k stands for byte k.
     */
    private static final class Work {
        private final Bytes registers;
        private final Bytes cells;
        private final long[] readsFrom;
        private final long[] writesFrom;
        private int width;
        private int group;
        private int most;
        private int xa;
        private int xb;
        private int from;
        Instruction what;
        int number;
        int to;
        int done;
        int doneBefore;

        Work(Bytes registers, Bytes cells, Instruction nothing) {
            this.registers = registers;
            this.cells = cells;
            readsFrom = new long[MOST_STEPS + 1];
            writesFrom = new long[MOST_STEPS + 1];
            what = nothing;
        }

        void take(Instruction what, int number, Setting setting, int xa, int xb) {
            this.what = what;
            this.number = number;
            this.xa = xa;
            this.xb = xb;
            width = setting.width();
            group = setting.group();
            most = setting.most();
            from = setting.start;
            to = setting.length;
            done = 0;
        }

        int steps() {
            int elements = Math.max(0, to - from);
            return what.op == SUM ? Math.min(1, elements) : elements;
        }

        /** What each step touches is known from the start, so what is left to do is added up only once. */
        void foresee() {
            int steps = steps();
            long reads = 0;
            long writes = 0;
            for (int step = MOST_STEPS; step >= 0; step--) {
                if (step < steps) {
                    reads |= readsOf(step);
                    writes |= writesOf(step);
                }
                readsFrom[step] = reads;
                writesFrom[step] = writes;
            }
        }

        long readsFromStep(int step) {
            return step >= 0 && step <= MOST_STEPS ? readsFrom[step] : 0;
        }

        long writesFromStep(int step) {
            return step >= 0 && step <= MOST_STEPS ? writesFrom[step] : 0;
        }

        static long span(int first, int count) {
            return ((1L << count) - 1) << first;
        }

        private int placeOf(int r, int i) {
            return REGISTER_BYTES * r + i * width;
        }

        private long readsOf(int step) {
            int i = from + step;
            return what.op == SUM ? readsOfSum() : maskByte(i) | sourcesOf(i);
        }

        private long sourcesOf(int i) {
            switch (what.op) {
                case PLUSX: return span(placeOf(what.a, i), width);
                case SLIDE: return isInGroup(i + xb) ? span(placeOf(what.a, i + xb), width) : 0;
                case GATHER: return span(placeOf(what.a, 0), REGISTER_BYTES * group) | span(placeOf(what.b, i), width);
                case STORE: return span(placeOf(what.d, i), width);
                case LOADX: return span(placeOf(what.b, i), width);
                case LOAD:
                case LOADF: return 0;
                default: return span(placeOf(what.a, i), width) | span(placeOf(what.b, i), width);
            }
        }

        private long readsOfSum() {
            long reads = span(placeOf(what.b, 0), width);
            for (int i = from; i < to; i++) {
                reads |= maskByte(i) | span(placeOf(what.a, i), width);
            }
            return reads;
        }

        private long maskByte(int i) {
            return what.masked ? 1L << (i / 8) : 0;
        }

        private long writesOf(int step) {
            int i = from + step;
            switch (what.op) {
                case LESS: return span(REGISTER_BYTES * what.d + i / 8, 1);
                case WIDE: return span(REGISTER_BYTES * what.d + 2 * i * width, 2 * width);
                case SUM: return span(placeOf(what.d, 0), width);
                case STORE: return 0;
                default: return span(placeOf(what.d, i), width);
            }
        }

        boolean isDone() {
            return done >= steps();
        }

        boolean isNextStepFree(long readsAhead, long writesAhead) {
            if (isDone()) {
                return false;
            }
            long writes = writesOf(done);
            return (writesAhead & (readsOf(done) | writes)) == 0 && (readsAhead & writes) == 0;
        }

        void doNextStep() {
            int i = from + done;
            done++;
            if (what.op != SUM && !isWorkedOn(i)) {
                return;
            }
            switch (what.op) {
                case SUM:
                    writeSum();
                    break;
                case LESS:
                    writeMaskBit(i, element(what.a, i) < element(what.b, i));
                    break;
                case WIDE:
                    registers.write(REGISTER_BYTES * what.d + 2 * i * width, 2 * width, result(i));
                    break;
                case STORE:
                    cells.write(placeInMemory(i), width, element(what.d, i));
                    break;
                default:
                    registers.write(placeOf(what.d, i), width, result(i));
                    break;
            }
        }

        private boolean isWorkedOn(int i) {
            return !what.masked || (registers.bareNumber(i / 8, 1) >> (i % 8) & 1) == 1;
        }

        private void writeSum() {
            int sum = element(what.b, 0);
            boolean isAnyWorkedOn = false;
            for (int i = from; i < to; i++) {
                if (isWorkedOn(i)) {
                    sum += element(what.a, i);
                    isAnyWorkedOn = true;
                }
            }
            if (isAnyWorkedOn) {
                registers.write(placeOf(what.d, 0), width, sum);
            }
        }

        private void writeMaskBit(int i, boolean isSet) {
            int place = REGISTER_BYTES * what.d + i / 8;
            int bit = 1 << (i % 8);
            int others = registers.bareNumber(place, 1) & ~bit;
            registers.write(place, 1, isSet ? others | bit : others);
        }

        private int result(int i) {
            switch (what.op) {
                case PLUS:
                case WIDE: return element(what.a, i) + element(what.b, i);
                case MINUS: return element(what.a, i) - element(what.b, i);
                case TIMES: return element(what.a, i) * element(what.b, i);
                case PLUSX: return element(what.a, i) + xb;
                case SLIDE: return elementOrZero(what.a, i + xb);
                case GATHER: return elementOrZero(what.a, registers.bareNumber(placeOf(what.b, i), width));
                default: return cells.number(placeInMemory(i), width);
            }
        }

        private int element(int r, int i) {
            return registers.number(placeOf(r, i), width);
        }

        private int elementOrZero(int r, int i) {
            return isInGroup(i) ? registers.number(placeOf(r, i), width) : 0;
        }

        private boolean isInGroup(int i) {
            return i >= 0 && i < most;
        }

        private int placeInMemory(int i) {
            return xa + (what.op == LOADX ? registers.bareNumber(placeOf(what.b, i), width) : i * xb);
        }

        int firstBad(int bound) {
            for (int i = from; i < to; i++) {
                int place = placeInMemory(i);
                if ((place < 0 || place > bound - width) && isWorkedOn(i)) {
                    return i;
                }
            }
            return NONE;
        }
    }
}
