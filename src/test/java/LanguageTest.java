import java.io.IOException;
import java.lang.reflect.Executable;
import java.lang.reflect.Field;
import java.lang.reflect.Method;
import java.lang.reflect.Modifier;
import java.nio.file.Files;
import java.nio.file.Path;
import java.util.ArrayList;
import java.util.List;
import java.util.TreeSet;
import java.util.regex.Matcher;
import java.util.regex.Pattern;

/** The rules of ../shared/LANGUAGE.md that can be seen from the class and from its text. */
public final class LanguageTest {
    private static final Check CHECK = new Check("LanguageTest");
    private static final Path SOURCE = Path.of("src/main/java/LaneMachine.java");
    private static final List<Class<?>> CLASSES = new ArrayList<>();

    public static void main(String[] args) throws IOException {
        CLASSES.add(LaneMachine.class);
        CLASSES.addAll(List.of(LaneMachine.class.getDeclaredClasses()));
        classesInsideAreStatic();
        staticFieldsAreConstants();
        privateMethodsHaveNamesOfTheirOwn();
        fewParametersAndFields();
        methodsAreShort();
        String code = codeWithoutComments();
        forbiddenWords(code);
        libraryIsSmall(code);
        exceptionsAreThoseOfTheDocument(code);
        CHECK.end();
    }

    /** Rules 1, 2 and 11. */
    private static void classesInsideAreStatic() {
        CHECK.holds("at most twelve classes", CLASSES.size() <= 12);
        CHECK.holds("no package", LaneMachine.class.getPackageName().isEmpty());
        for (Class<?> inside : LaneMachine.class.getDeclaredClasses()) {
            int kind = inside.getModifiers();
            CHECK.holds(inside + " is static", Modifier.isStatic(kind));
            CHECK.holds(inside + " is not seen", !Modifier.isPublic(kind) && !Modifier.isProtected(kind));
            CHECK.is("classes inside " + inside, inside.getDeclaredClasses().length, 0);
        }
    }

    /** Rule 5. */
    private static void staticFieldsAreConstants() {
        for (Class<?> c : CLASSES) {
            for (Field f : c.getDeclaredFields()) {
                if (Modifier.isStatic(f.getModifiers())) {
                    CHECK.holds(f + " is final", Modifier.isFinal(f.getModifiers()));
                    CHECK.holds(f + " is an int", f.getType() == int.class);
                }
            }
        }
    }

    /** Rule 1. */
    private static void privateMethodsHaveNamesOfTheirOwn() {
        TreeSet<String> face = new TreeSet<>();
        for (Method f : LaneMachine.class.getDeclaredMethods()) {
            if (Modifier.isPublic(f.getModifiers())) {
                CHECK.holds(f + " has its name alone", face.add(f.getName()));
            }
        }
        for (Class<?> c : CLASSES) {
            for (Method f : c.getDeclaredMethods()) {
                boolean isOfFace = c == LaneMachine.class && Modifier.isPublic(f.getModifiers());
                CHECK.holds(f + " has a name of its own", isOfFace || !face.contains(f.getName()));
            }
        }
    }

    /** Rule 11. */
    private static void fewParametersAndFields() {
        for (Class<?> c : CLASSES) {
            List<Executable> all = new ArrayList<>(List.of(c.getDeclaredMethods()));
            all.addAll(List.of(c.getDeclaredConstructors()));
            for (Executable f : all) {
                CHECK.holds(f + " has at most seven parameters", f.getParameterCount() <= 7);
            }
            int fields = 0;
            for (Field f : c.getDeclaredFields()) {
                fields += Modifier.isStatic(f.getModifiers()) ? 0 : 1;
            }
            CHECK.holds(c + " has at most twenty fields", fields <= 20);
        }
    }

    /** Rule 11, by the indentation: a method's last line closes at the depth of its first. */
    private static void methodsAreShort() throws IOException {
        List<String> lines = Files.readAllLines(SOURCE);
        Pattern head = Pattern.compile("( {4}| {8})(\\w[\\w\\[\\] ]*\\(.*|throws .*)\\{");
        int methods = 0;
        for (int i = 0; i < lines.size(); i++) {
            Matcher found = head.matcher(lines.get(i));
            if (found.matches() && !found.group(2).matches("(if|for|while|switch) .*")) {
                int end = lines.subList(i, lines.size()).indexOf(found.group(1) + "}");
                CHECK.holds(lines.get(i).strip() + " is short", end > 0 && end <= 60);
                methods++;
            }
        }
        CHECK.holds("methods are found: " + methods, methods > 50);
    }

    private static String codeWithoutComments() throws IOException {
        return Files.readString(SOURCE).replaceAll("(?s)/\\*.*?\\*/", "").replaceAll("//[^\\n]*", "");
    }

    /** Rules 2 to 6, 9 and 13. */
    private static void forbiddenWords(String code) {
        String[] words = {"import", "package", "synchronized", "assert", "try", "catch", "finally", "equals", "hashCode",
                "toString", "double", "float", "native", "volatile", "transient", "extends", "var", "while", "System",
                "Thread", "yield"};
        for (String word : words) {
            CHECK.holds("no " + word, !Pattern.compile("\\b" + word + "\\b").matcher(code).find());
        }
        CHECK.holds("no lambda", !code.contains("->"));
        CHECK.holds("no method reference", !code.contains("::"));
        CHECK.holds("no text", !code.contains("\""));
        CHECK.holds("no static block", !Pattern.compile("\\bstatic\\s*\\{").matcher(code).find());
    }

    /** Rule 4. */
    private static void libraryIsSmall(String code) {
        TreeSet<String> seen = new TreeSet<>();
        Matcher call = Pattern.compile("\\b(?:Math|Integer|Long|String|Arrays|List)\\.\\w+").matcher(code);
        while (call.find()) {
            seen.add(call.group());
        }
        CHECK.holds("the library " + seen + " is Math.max and Math.min",
                seen.equals(new TreeSet<>(List.of("Math.max", "Math.min"))));
    }

    /** Rule 6: those of the face alone, and each is thrown where the document has it. */
    private static void exceptionsAreThoseOfTheDocument(String code) {
        Matcher made = Pattern.compile("\\bthrow\\b([^;]*);").matcher(code);
        while (made.find()) {
            String what = made.group(1).strip();
            CHECK.holds("throw " + what + " is as said", what.equals("new IllegalArgumentException()")
                    || what.equals("new IllegalStateException()"));
        }
        for (Method f : LaneMachine.class.getDeclaredMethods()) {
            if (Modifier.isPublic(f.getModifiers())) {
                TreeSet<String> told = new TreeSet<>();
                for (Class<?> e : f.getExceptionTypes()) {
                    told.add(e.getSimpleName());
                }
                CHECK.holds(f.getName() + " tells " + told, told.equals(toldByTheDocument(f.getName())));
            }
        }
    }

    private static TreeSet<String> toldByTheDocument(String name) {
        switch (name) {
            case "put":
            case "go":
            case "limit": return new TreeSet<>(List.of("IllegalArgumentException", "IllegalStateException"));
            case "cycles":
            case "poke": return new TreeSet<>(List.of("IllegalArgumentException"));
            case "resume": return new TreeSet<>(List.of("IllegalStateException"));
            default: return new TreeSet<>();
        }
    }
}
