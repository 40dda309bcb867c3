/** Every answer that the face gives about a machine's state, by 223 calls. */
final class Snapshot {
    static final int CALLS = 11 + 8 + 64 + 128 + 4 * 3;

    private final String[] names = new String[CALLS];
    private final int[] answers = new int[CALLS];
    private int size;

    Snapshot(LaneMachine m) {
        for (int what = 0; what < 11; what++) {
            add("about(" + what + ")", m.about(what));
        }
        for (int i = 0; i < 8; i++) {
            add("scalar(" + i + ")", m.scalar(i));
        }
        for (int k = 0; k < 64; k++) {
            add("file(" + k + ")", m.file(k));
        }
        for (int k = 0; k < 128; k++) {
            add("memory(" + k + ")", m.memory(k));
        }
        for (int i = 0; i < 4; i++) {
            for (int what = 0; what < 3; what++) {
                add("queue(" + i + ", " + what + ")", m.queue(i, what));
            }
        }
    }

    private void add(String name, int answer) {
        names[size] = name;
        answers[size] = answer;
        size++;
    }

    /** What differs from another, or an empty text. */
    String differenceFrom(Snapshot other) {
        StringBuilder all = new StringBuilder();
        for (int i = 0; i < CALLS; i++) {
            if (answers[i] != other.answers[i]) {
                all.append(names[i]).append(" is ").append(answers[i]).append(", not ").append(other.answers[i]).append("; ");
            }
        }
        return all.toString();
    }
}
