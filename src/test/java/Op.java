/** The document's numbers of the operations. */
final class Op {
    static final int SET = 0;
    static final int ADD = 1;
    static final int ADDN = 2;
    static final int UNLIKE = 3;
    static final int HALT = 4;
    static final int LIMIT = 5;
    static final int CONFIGURE = 6;
    static final int FIRST = 7;
    static final int PLUS = 8;
    static final int MINUS = 9;
    static final int TIMES = 10;
    static final int PLUSX = 11;
    static final int LESS = 12;
    static final int WIDE = 13;
    static final int SUM = 14;
    static final int SLIDE = 15;
    static final int GATHER = 16;
    static final int LOAD = 17;
    static final int STORE = 18;
    static final int LOADX = 19;
    static final int LOADF = 20;

    private Op() {
    }
}
