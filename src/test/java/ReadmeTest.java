import java.io.IOException;
import java.nio.file.Files;
import java.nio.file.Path;
import java.util.ArrayList;
import java.util.List;

/** The examples of README.md stand here word for word, and answer what they say there. */
public final class ReadmeTest {
    private static final Check CHECK = new Check("ReadmeTest");

    public static void main(String[] args) throws IOException {
        aFirstRun();
        aTrap();
        examplesStandHereWordForWord();
        CHECK.end();
    }

    private static void aFirstRun() {
        LaneMachine m = new LaneMachine(4);      // four lanes: a unit does up to four steps in a cycle
        m.poke(0, 5);                            // byte 0 of memory is 5
        m.put(0, 1, 0, 0, 8, false);             // SET x1 = 8
        m.put(6, 2, 1, 0, 0, false);             // CONFIGURE: width 1, group 1, x2 = vl = 8
        m.put(0, 3, 0, 0, 1, false);             // SET x3 = 1
        m.put(17, 2, 0, 3, 0, false);            // LOAD register 2 from memory, elements 1 byte apart
        m.put(8, 4, 2, 2, 0, false);             // PLUS: register 4 = register 2 + register 2
        m.put(4, 0, 0, 0, 0, false);             // HALT
        m.go(0);                                 // instruction 0 is next, and the machine runs
        m.cycles(40);
        int doubled = m.file(32);                // 10: byte 0 of register 4
        int halted = m.about(0);                 // LaneMachine.HALTED
        CHECK.is("doubled", doubled, 10);
        CHECK.is("halted", halted, LaneMachine.HALTED);
    }

    private static void aTrap() {
        LaneMachine t = new LaneMachine(1);
        t.limit(3);                              // bytes 0, 1 and 2 of memory may be reached
        t.poke(3, 7);                            // poke reaches all of it
        t.put(0, 1, 0, 0, 8, false);             // SET x1 = 8
        t.put(6, 2, 1, 0, 0, false);             // CONFIGURE: width 1, group 1, x2 = vl = 8
        t.put(0, 3, 0, 0, 1, false);             // SET x3 = 1
        t.put(17, 2, 0, 3, 0, false);            // LOAD register 2
        t.put(4, 0, 0, 0, 0, false);             // HALT
        t.go(0);
        t.cycles(40);
        int trapped = t.about(0);                // LaneMachine.TRAPPED
        int bad = t.about(5);                    // 3: the start is the element that may not be reached
        t.limit(128);
        int from = t.resume();                   // 3: elements 0 to 2 are not loaded again
        t.cycles(40);
        int loaded = t.file(19);                 // 7: byte 3 of register 2
        CHECK.is("trapped", trapped, LaneMachine.TRAPPED);
        CHECK.is("bad", bad, 3);
        CHECK.is("from", from, 3);
        CHECK.is("loaded", loaded, 7);
        CHECK.is("steps of the eight elements", t.about(10), 8);
    }

    private static void examplesStandHereWordForWord() throws IOException {
        List<String> here = new ArrayList<>();
        for (String line : Files.readAllLines(Path.of("src/test/java/ReadmeTest.java"))) {
            here.add(line.strip());
        }
        int found = 0;
        int at = 0;
        boolean isExample = false;
        for (String line : Files.readAllLines(Path.of("README.md"))) {
            if (line.startsWith("```")) {
                isExample = line.equals("```java");
            } else if (isExample) {
                int place = here.subList(at, here.size()).indexOf(line.strip());
                CHECK.holds("the example's line '" + line + "' stands in this test, in its order", place >= 0);
                at += Math.max(0, place);
                found++;
            }
        }
        CHECK.is("lines of examples in README.md", found, 28);
    }
}
