import java.io.IOException;
import java.lang.reflect.Constructor;
import java.lang.reflect.Field;
import java.lang.reflect.Method;
import java.lang.reflect.Modifier;
import java.nio.file.Files;
import java.nio.file.Path;
import java.util.Set;
import java.util.TreeSet;

/** The public face is that of the document, and nothing else can be seen from outside. */
public final class FaceTest {
    private static final Path DOCUMENT = Path.of("../shared/DOC.md");
    private static final String ARGUMENT = " throws IllegalArgumentException";
    private static final String STATE = " throws IllegalStateException";
    private static final String BOTH = ARGUMENT + ", IllegalStateException";
    private static final String THREE = BOTH + ", UnsupportedOperationException";
    private static final String FOUR = THREE + ", IndexOutOfBoundsException";

    private static final Set<String> FACE = new TreeSet<>(Set.of(
        "FaultTreeDesk()", "int event(int)" + BOTH, "int chance(int, int)" + ARGUMENT, "int hold(int, int)" + ARGUMENT,
        "int gate(int, int)" + BOTH, "int input(int, int)" + THREE, "void top(int)" + ARGUMENT,
        "boolean value(int)" + STATE, "long odds()" + STATE, "int digit(int)" + BOTH, "long weight(int)" + BOTH,
        "int nodes()" + STATE, "int primes(int)" + THREE, "int prime(int, int)" + FOUR, "int share(int)" + THREE,
        "int modules()" + STATE));

    private static int wrong = 0;

    private static void tell(String text) {
        wrong++;
        System.out.println(text);
    }

    private static String names(Class<?>[] types) {
        StringBuilder text = new StringBuilder();
        for (int i = 0; i < types.length; i++) text.append(i > 0 ? ", " : "").append(types[i].getSimpleName());
        return text.toString();
    }

    private static String signature(String what, Class<?>[] takes, Class<?>[] exceptions) {
        return what + "(" + names(takes) + ")" + (exceptions.length > 0 ? " throws " + names(exceptions) : "");
    }

    private static String signature(Method m) {
        return signature(m.getReturnType().getSimpleName() + " " + m.getName(), m.getParameterTypes(), m.getExceptionTypes());
    }

    private static void checkConstructor(Class<?> desk, Set<String> due) {
        for (Constructor<?> c : desk.getDeclaredConstructors()) {
            String found = signature(desk.getSimpleName(), c.getParameterTypes(), c.getExceptionTypes());
            if (!Modifier.isPublic(c.getModifiers()) || !due.remove(found)) tell("not of the face: " + found);
        }
    }

    private static void checkMethods(Class<?> desk, Set<String> due) {
        Set<String> names = new TreeSet<>();
        for (String s : FACE) names.add(s.substring(s.indexOf(' ') + 1, s.indexOf('(')));
        for (Method m : desk.getDeclaredMethods()) {
            boolean hidden = Modifier.isPrivate(m.getModifiers());
            if (hidden && names.contains(m.getName())) tell("private but named as the face: " + signature(m));
            if (!hidden && !Modifier.isPublic(m.getModifiers())) tell("neither public nor private: " + signature(m));
            if (!hidden && Modifier.isStatic(m.getModifiers())) tell("static: " + signature(m));
            if (!hidden && !due.remove(signature(m))) tell("not of the face: " + signature(m));
        }
    }

    private static void checkFields(Class<?> type) {
        for (Field f : type.getDeclaredFields()) {
            int how = f.getModifiers();
            if (!Modifier.isPrivate(how)) tell("a field that is not private: " + f);
            if (Modifier.isStatic(how) && !Modifier.isFinal(how)) tell("a static field that is not final: " + f);
        }
    }

    /** As the document writes it, but without the names of what is taken. */
    private static String written(String line) {
        String plain = line.replaceAll("public |;", "").strip();
        return plain.replaceAll("\\bint \\w+(?=[,)])", "int");
    }

    /** The document has the face twice: whole, and with each promise. */
    private static void checkDocument() throws IOException {
        if (!Files.isReadable(DOCUMENT)) {
            System.out.println(DOCUMENT + " is not here: the face is not read against it");
            return;
        }
        Set<String> whole = new TreeSet<>();
        Set<String> promised = new TreeSet<>();
        for (String line : Files.readAllLines(DOCUMENT)) {
            if (line.startsWith("    public ")) whole.add(written(line));
            if (line.startsWith("`") && line.indexOf('`', 1) > 0) promised.add(written(line.substring(1, line.indexOf('`', 1))));
        }
        promised.remove("");
        if (!whole.equals(FACE)) tell("the document's face is " + whole);
        if (!promised.equals(FACE)) tell("the face of its promises is " + promised);
    }

    public static void main(String[] args) throws IOException {
        Class<?> desk = FaultTreeDesk.class;
        int how = desk.getModifiers();
        if (!Modifier.isPublic(how) || !Modifier.isFinal(how)) tell("the class is not public and final");
        if (!desk.getPackageName().isEmpty()) tell("the class has a package");
        if (desk.getSuperclass() != Object.class || desk.getInterfaces().length > 0) tell("the class has one above it");
        Set<String> due = new TreeSet<>(FACE);
        checkConstructor(desk, due);
        checkMethods(desk, due);
        for (String s : due) tell("missing: " + s);
        checkFields(desk);
        for (Class<?> inside : desk.getDeclaredClasses()) {
            if (!Modifier.isStatic(inside.getModifiers())) tell("not static: " + inside);
            checkFields(inside);
        }
        checkDocument();
        System.out.println(wrong == 0 ? "the face is as due" : wrong + " faults of the face");
        if (wrong != 0) System.exit(1);
    }
}
