import java.util.ArrayList;
import java.util.HashSet;
import java.util.List;
import java.util.Set;

/**
 * The document read a second time, as literally as it goes and without regard to speed: sets of bytes are sets,
 * and nothing is worked out ahead. ModelTest holds the program against it.
 */
final class Model {
    static final class Inst {
        int number, op, d, a, b, n;
        boolean masked;
    }

    /** The bytes of the file that one step reads and writes. */
    static final class Touched {
        final Set<Integer> reads = new HashSet<>();
        final Set<Integer> writes = new HashSet<>();
    }

    static final class Handed {
        Inst inst;
        int xa, xb, start, end, done, doneBefore;

        int steps() {
            if (inst.op == Op.SUM) {
                return start < end ? 1 : 0;
            }
            return start < end ? end - start : 0;
        }
    }

    final int lanes;
    final int[] x = new int[8];
    final int[] file = new int[64];
    final int[] memory = new int[128];
    final List<Inst> program = new ArrayList<>();
    final List<Handed> queue = new ArrayList<>();
    int width = 1, group = 1, vl, start, bound = 128, next, state = 1, cycles, steps;

    Model(int lanes) {
        this.lanes = lanes < 1 ? 1 : lanes > 8 ? 8 : lanes;
    }

    int put(int op, int d, int a, int b, int n, boolean masked) {
        boolean isFine = op >= 0 && op <= 20 && d >= 0 && d <= 7 && a >= 0 && a <= 7 && b >= 0 && b <= 7;
        if (op == Op.CONFIGURE && (n < 0 || n > 10 || n == 3 || n == 7)) {
            isFine = false;
        }
        if (!isFine) {
            throw new IllegalArgumentException();
        }
        if (program.size() == 40 || state == 0) {
            throw new IllegalStateException();
        }
        Inst inst = new Inst();
        inst.number = program.size();
        inst.op = op;
        inst.d = d;
        inst.a = a;
        inst.b = b;
        inst.n = n;
        inst.masked = masked;
        program.add(inst);
        return inst.number;
    }

    int go(int at) {
        if (at < 0 || at >= program.size()) {
            throw new IllegalArgumentException();
        }
        if (state == 0 || !queue.isEmpty()) {
            throw new IllegalStateException();
        }
        next = at;
        start = 0;
        state = 0;
        return at;
    }

    int resume() {
        if (state != 2 || !queue.isEmpty()) {
            throw new IllegalStateException();
        }
        state = 0;
        return start;
    }

    int cycles(int n) {
        if (n < 1 || n > 200) {
            throw new IllegalArgumentException();
        }
        for (int i = 0; i < n; i++) {
            cycle();
        }
        return cycles;
    }

    boolean poke(int k, int v) {
        if (k < 0 || k > 127 || v < -128 || v > 255) {
            throw new IllegalArgumentException();
        }
        memory[k] = v & 255;
        return true;
    }

    boolean limit(int n) {
        if (n < 0 || n > 128) {
            throw new IllegalArgumentException();
        }
        if (state == 0 || !queue.isEmpty()) {
            throw new IllegalStateException();
        }
        bound = n;
        return true;
    }

    int scalar(int i) {
        return i < 0 || i > 7 ? 0 : x[i];
    }

    int file(int k) {
        return k < 0 || k > 63 ? 0 : (byte) file[k];
    }

    int memory(int k) {
        return k < 0 || k > 127 ? 0 : (byte) memory[k];
    }

    int about(int what) {
        int[] all = {state, next, width, group, vl, start, bound, cycles, queue.size(), program.size(), steps};
        return what < 0 || what > 10 ? -1 : all[what];
    }

    int queue(int i, int what) {
        if (i < 0 || i >= queue.size() || what < 0 || what > 2) {
            return -1;
        }
        Handed h = queue.get(i);
        return what == 0 ? h.inst.number : what == 1 ? h.steps() : h.done;
    }

    private static int unit(int op) {
        switch (op) {
            case Op.PLUS: case Op.MINUS: case Op.PLUSX: case Op.LESS: case Op.WIDE: return 0;
            case Op.TIMES: case Op.SUM: case Op.SLIDE: case Op.GATHER: return 1;
            default: return 2;
        }
    }

    private void cycle() {
        cycles++;
        for (Handed h : queue) {
            h.doneBefore = h.done;
        }
        for (int unit = 0; unit < 3; unit++) {
            for (int i = 0; i < queue.size(); i++) {
                if (unit(queue.get(i).inst.op) == unit) {
                    work(i);
                    break;
                }
            }
        }
        queue.removeIf(h -> h.done == h.steps());
        if (state == 0) {
            scalarPart();
        }
    }

    private void work(int place) {
        Handed own = queue.get(place);
        for (int lane = 0; lane < lanes && own.done < own.steps(); lane++) {
            Touched mine = touched(own, own.done);
            for (int i = 0; i < place; i++) {
                Handed ahead = queue.get(i);
                for (int s = ahead.doneBefore; s < ahead.steps(); s++) {
                    Touched other = touched(ahead, s);
                    if (meet(other.writes, mine.reads) || meet(other.writes, mine.writes)
                            || meet(other.reads, mine.writes)) {
                        return;
                    }
                }
            }
            doStep(own, own.start + own.done);
            own.done++;
            steps++;
        }
    }

    private static boolean meet(Set<Integer> one, Set<Integer> other) {
        for (int k : one) {
            if (other.contains(k)) {
                return true;
            }
        }
        return false;
    }

    private void addElement(Set<Integer> to, int r, int i, int w) {
        for (int j = 0; j < w; j++) {
            to.add(8 * r + i * w + j);
        }
    }

    private Touched touched(Handed h, int step) {
        Touched t = new Touched();
        Inst s = h.inst;
        int i = h.start + step;
        if (s.op == Op.SUM) {
            for (int e = h.start; e < h.end; e++) {
                addElement(t.reads, s.a, e, width);
                if (s.masked) {
                    t.reads.add(e / 8);
                }
            }
            addElement(t.reads, s.b, 0, width);
            addElement(t.writes, s.d, 0, width);
            return t;
        }
        if (s.masked) {
            t.reads.add(i / 8);
        }
        switch (s.op) {
            case Op.PLUS: case Op.MINUS: case Op.TIMES:
                addElement(t.reads, s.a, i, width);
                addElement(t.reads, s.b, i, width);
                addElement(t.writes, s.d, i, width);
                break;
            case Op.PLUSX:
                addElement(t.reads, s.a, i, width);
                addElement(t.writes, s.d, i, width);
                break;
            case Op.LESS:
                addElement(t.reads, s.a, i, width);
                addElement(t.reads, s.b, i, width);
                t.writes.add(8 * s.d + i / 8);
                break;
            case Op.WIDE:
                addElement(t.reads, s.a, i, width);
                addElement(t.reads, s.b, i, width);
                addElement(t.writes, s.d, i, 2 * width);
                break;
            case Op.SLIDE:
                if (i + h.xb >= 0 && i + h.xb < 8 * group / width) {
                    addElement(t.reads, s.a, i + h.xb, width);
                }
                addElement(t.writes, s.d, i, width);
                break;
            case Op.GATHER:
                for (int k = 0; k < 8 * group; k++) {
                    t.reads.add(8 * s.a + k);
                }
                addElement(t.reads, s.b, i, width);
                addElement(t.writes, s.d, i, width);
                break;
            case Op.LOAD: case Op.LOADF:
                addElement(t.writes, s.d, i, width);
                break;
            case Op.STORE:
                addElement(t.reads, s.d, i, width);
                break;
            default:
                addElement(t.reads, s.b, i, width);
                addElement(t.writes, s.d, i, width);
                break;
        }
        return t;
    }

    private long bare(int[] row, int from, int w) {
        long v = 0;
        for (int j = 0; j < w; j++) {
            v += ((long) (row[from + j] & 255)) << (8 * j);
        }
        return v;
    }

    private long signed(int[] row, int from, int w) {
        long v = bare(row, from, w);
        long size = 1L << (8 * w);
        return v >= size / 2 ? v - size : v;
    }

    private long e(int r, int i) {
        return signed(file, 8 * r + i * width, width);
    }

    private void setBytes(int[] row, int from, int w, long v) {
        for (int j = 0; j < w; j++) {
            row[from + j] = (int) ((v >> (8 * j)) & 255);
        }
    }

    private boolean bit(int r, int i) {
        return ((file[8 * r + i / 8] >> (i % 8)) & 1) == 1;
    }

    private int place(Handed h, int i) {
        if (h.inst.op == Op.LOADX) {
            return (int) (h.xa + bare(file, 8 * h.inst.b + i * width, width));
        }
        return (int) (h.xa + (long) i * h.xb);
    }

    private void doStep(Handed h, int i) {
        Inst s = h.inst;
        int most = 8 * group / width;
        if (s.op == Op.SUM) {
            long sum = e(s.b, 0);
            int worked = 0;
            for (int k = h.start; k < h.end; k++) {
                if (!s.masked || bit(0, k)) {
                    sum += e(s.a, k);
                    worked++;
                }
            }
            if (worked > 0) {
                setBytes(file, 8 * s.d, width, sum);
            }
            return;
        }
        if (s.masked && !bit(0, i)) {
            return;
        }
        int to = 8 * s.d + i * width;
        if (s.op == Op.PLUS) {
            setBytes(file, to, width, e(s.a, i) + e(s.b, i));
        } else if (s.op == Op.MINUS) {
            setBytes(file, to, width, e(s.a, i) - e(s.b, i));
        } else if (s.op == Op.TIMES) {
            setBytes(file, to, width, e(s.a, i) * e(s.b, i));
        } else if (s.op == Op.PLUSX) {
            setBytes(file, to, width, e(s.a, i) + h.xb);
        } else if (s.op == Op.LESS) {
            boolean isLess = e(s.a, i) < e(s.b, i);
            int k = 8 * s.d + i / 8;
            file[k] = isLess ? file[k] | 1 << i % 8 : file[k] & ~(1 << i % 8);
        } else if (s.op == Op.WIDE) {
            setBytes(file, 8 * s.d + i * 2 * width, 2 * width, e(s.a, i) + e(s.b, i));
        } else if (s.op == Op.SLIDE) {
            long k = (long) i + h.xb;
            setBytes(file, to, width, k >= 0 && k < most ? e(s.a, (int) k) : 0);
        } else if (s.op == Op.GATHER) {
            long k = bare(file, 8 * s.b + i * width, width);
            setBytes(file, to, width, k < most ? e(s.a, (int) k) : 0);
        } else if (s.op == Op.STORE) {
            setBytes(memory, place(h, i), width, e(s.d, i));
        } else {
            setBytes(file, to, width, signed(memory, place(h, i), width));
        }
    }

    private boolean has(int first, int count, int r) {
        return r >= first && r < first + count;
    }

    private boolean isIllegal(Inst s) {
        boolean isD = false, isA = false, isB = false;
        int dGroup = group;
        switch (s.op) {
            case Op.PLUS: case Op.MINUS: case Op.TIMES: case Op.GATHER: isD = isA = isB = true; break;
            case Op.PLUSX: case Op.SLIDE: isD = isA = true; break;
            case Op.LESS: isA = isB = true; break;
            case Op.WIDE: isD = isA = isB = true; dGroup = 2 * group; break;
            case Op.SUM: isA = true; dGroup = 1; break;
            case Op.LOAD: case Op.STORE: case Op.LOADF: isD = true; break;
            case Op.LOADX: isD = isB = true; break;
            default: return false;
        }
        if (isD && s.d % dGroup != 0 || isA && s.a % group != 0 || isB && s.b % group != 0) {
            return true;
        }
        if (s.op == Op.WIDE && (width == 4 || group == 4)) {
            return true;
        }
        if (s.masked && s.op != Op.LESS && s.op != Op.STORE && has(s.d, dGroup, 0)) {
            return true;
        }
        if (s.op == Op.SLIDE && s.d == s.a || s.op == Op.GATHER && (s.d == s.a || s.d == s.b)) {
            return true;
        }
        return s.op == Op.WIDE && (has(s.d, dGroup, s.a) || has(s.d, dGroup, s.b));
    }

    private void write(int d, int v) {
        if (d != 0) {
            x[d] = v;
        }
    }

    private void scalarPart() {
        if (next < 0 || next >= program.size()) {
            state = 3;
            return;
        }
        Inst s = program.get(next);
        if (isIllegal(s)) {
            state = 3;
            return;
        }
        if (s.op >= Op.PLUS) {
            vectorOne(s);
            return;
        }
        boolean waits = s.op == Op.FIRST || s.op == Op.CONFIGURE || s.op == Op.LIMIT;
        if (waits && !queue.isEmpty()) {
            return;
        }
        next++;
        if (s.op == Op.SET) {
            write(s.d, s.n);
        } else if (s.op == Op.ADD) {
            write(s.d, x[s.a] + x[s.b]);
        } else if (s.op == Op.ADDN) {
            write(s.d, x[s.a] + s.n);
        } else if (s.op == Op.UNLIKE) {
            if (x[s.a] != x[s.b]) {
                next = s.n;
            }
        } else if (s.op == Op.HALT) {
            state = 1;
            next--;
        } else if (s.op == Op.LIMIT) {
            bound = x[s.a] < 0 ? 0 : x[s.a] > 128 ? 128 : x[s.a];
        } else if (s.op == Op.CONFIGURE) {
            width = new int[] {1, 2, 4}[s.n % 4];
            group = new int[] {1, 2, 4}[s.n / 4];
            int most = 8 * group / width;
            vl = x[s.a] < 0 ? 0 : x[s.a] < most ? x[s.a] : most;
            write(s.d, vl);
            start = 0;
        } else {
            write(s.d, (int) e(s.a, 0));
        }
    }

    private boolean memoryOneWaits(Inst s) {
        for (Handed h : queue) {
            if (unit(h.inst.op) == 2) {
                return true;
            }
            for (int step = h.done; step < h.steps(); step++) {
                for (int k : touched(h, step).writes) {
                    if (s.masked && k < 8 || s.op == Op.LOADX && k >= 8 * s.b && k < 8 * s.b + 8 * group) {
                        return true;
                    }
                }
            }
        }
        return false;
    }

    private void vectorOne(Inst s) {
        if (queue.size() == 4 || unit(s.op) == 2 && memoryOneWaits(s)) {
            return;
        }
        Handed h = new Handed();
        h.inst = s;
        h.xa = x[s.a];
        h.xb = x[s.b];
        h.start = start;
        h.end = vl;
        int bad = -1;
        if (unit(s.op) == 2) {
            for (int i = start; i < vl && bad < 0; i++) {
                if (!s.masked || bit(0, i)) {
                    for (int j = 0; j < width; j++) {
                        long k = (long) place(h, i) + j;
                        if (k < 0 || k >= bound) {
                            bad = i;
                        }
                    }
                }
            }
        }
        if (bad >= 0) {
            h.end = bad;
        }
        if (h.steps() > 0) {
            queue.add(h);
        }
        if (bad < 0) {
            start = 0;
            next++;
        } else if (s.op == Op.LOADF && bad > 0) {
            vl = bad;
            start = 0;
            next++;
        } else {
            start = bad;
            state = 2;
        }
    }
}
