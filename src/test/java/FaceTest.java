import java.lang.reflect.Constructor;
import java.lang.reflect.Field;
import java.lang.reflect.Method;
import java.lang.reflect.Modifier;
import java.util.Arrays;
import java.util.List;
import java.util.TreeSet;

/** The public face, promise 1 (a new object) and what promises 8 to 12 answer of one. */
public final class FaceTest {
    private static final Check CHECK = new Check("FaceTest");

    public static void main(String[] args) {
        constants();
        membersAreThoseOfTheDocument();
        newObject();
        lanesAreOneToEight();
        CHECK.end();
    }

    private static void constants() {
        CHECK.is("NONE", LaneMachine.NONE, -1);
        CHECK.is("RUNS", LaneMachine.RUNS, 0);
        CHECK.is("HALTED", LaneMachine.HALTED, 1);
        CHECK.is("TRAPPED", LaneMachine.TRAPPED, 2);
        CHECK.is("ILLEGAL", LaneMachine.ILLEGAL, 3);
    }

    private static void membersAreThoseOfTheDocument() {
        TreeSet<String> seen = new TreeSet<>();
        for (Field f : LaneMachine.class.getDeclaredFields()) {
            if (!Modifier.isPrivate(f.getModifiers())) {
                seen.add(Modifier.toString(f.getModifiers()) + " " + f.getType() + " " + f.getName());
            }
        }
        for (Method f : LaneMachine.class.getDeclaredMethods()) {
            if (!Modifier.isPrivate(f.getModifiers())) {
                seen.add(Modifier.toString(f.getModifiers()) + " " + f.getReturnType() + " " + f.getName()
                        + Arrays.toString(f.getParameterTypes()));
            }
        }
        for (Constructor<?> f : LaneMachine.class.getDeclaredConstructors()) {
            if (!Modifier.isPrivate(f.getModifiers())) {
                seen.add(Modifier.toString(f.getModifiers()) + " new" + Arrays.toString(f.getParameterTypes()));
            }
        }
        TreeSet<String> due = new TreeSet<>();
        for (String name : List.of("NONE", "RUNS", "HALTED", "TRAPPED", "ILLEGAL")) {
            due.add("public static final int " + name);
        }
        for (String head : List.of("new[int]", "int put[int, int, int, int, int, boolean]", "int go[int]",
                "int resume[]", "int cycles[int]", "boolean poke[int, int]", "boolean limit[int]", "int scalar[int]",
                "int file[int]", "int memory[int]", "int about[int]", "int queue[int, int]")) {
            due.add("public " + head);
        }
        CHECK.holds("the face " + seen + " is " + due, seen.equals(due));
        CHECK.is("the class is public and final", LaneMachine.class.getModifiers(), Modifier.PUBLIC | Modifier.FINAL);
    }

    private static void newObject() {
        LaneMachine m = new LaneMachine(3);
        int[] due = {LaneMachine.HALTED, 0, 1, 1, 0, 0, 128, 0, 0, 0, 0};
        for (int what = 0; what < due.length; what++) {
            CHECK.is("about(" + what + ") of a new object", m.about(what), due[what]);
        }
        for (int i = 0; i < 8; i++) {
            CHECK.is("scalar(" + i + ") of a new object", m.scalar(i), 0);
        }
        for (int k = 0; k < 64; k++) {
            CHECK.is("file(" + k + ") of a new object", m.file(k), 0);
        }
        for (int k = 0; k < 128; k++) {
            CHECK.is("memory(" + k + ") of a new object", m.memory(k), 0);
        }
        CHECK.is("queue(0, 0) of a new object", m.queue(0, 0), LaneMachine.NONE);
        CHECK.badArgument("go(0) of a new object", () -> m.go(0));
        CHECK.badState("resume() of a new object", m::resume);
        CHECK.is("cycles(2) of a new object", m.cycles(2), 2);
        CHECK.is("a halted machine stays halted", m.about(0), LaneMachine.HALTED);
    }

    private static void lanesAreOneToEight() {
        int[] wanted = {Integer.MIN_VALUE, -1, 0, 1, 2, 5, 7, 8, 9, 100, Integer.MAX_VALUE};
        int[] due = {1, 1, 1, 1, 2, 5, 7, 8, 8, 8, 8};
        for (int i = 0; i < wanted.length; i++) {
            Rig rig = new Rig(wanted[i]);
            rig.length(Rig.W1 + Rig.G4, 32).vector(Op.PLUS, 4, 0, 0);
            rig.m.go(0);
            rig.m.cycles(4);
            CHECK.is("steps in one cycle with " + wanted[i] + " lanes", rig.m.queue(0, 2), due[i]);
        }
    }
}
