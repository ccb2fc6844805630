import java.lang.reflect.Constructor;
import java.lang.reflect.Field;
import java.lang.reflect.Method;
import java.lang.reflect.Modifier;
import java.util.Set;
import java.util.TreeSet;

/** The public face is that of the document, and nothing else can be seen from outside. */
public final class FaceTest {
    private static final String[] FACE = {
        "int event(int)", "int chance(int,int)", "int hold(int,int)", "int gate(int,int)", "int input(int,int)",
        "void top(int)", "boolean value(int)", "long odds()", "int digit(int)", "long weight(int)", "int nodes()",
        "int primes(int)", "int prime(int,int)", "int share(int)", "int modules()"
    };
    private static int wrong = 0;

    private static void tell(String text) {
        wrong++;
        System.out.println(text);
    }

    private static String signature(Method m) {
        StringBuilder text = new StringBuilder(m.getReturnType().getName() + " " + m.getName() + "(");
        Class<?>[] types = m.getParameterTypes();
        for (int i = 0; i < types.length; i++) text.append(i > 0 ? "," : "").append(types[i].getName());
        return text.append(")").toString();
    }

    private static void checkMethods(Class<?> desk) {
        Set<String> due = new TreeSet<>(Set.of(FACE));
        Set<String> names = new TreeSet<>();
        for (String s : FACE) names.add(s.substring(s.indexOf(' ') + 1, s.indexOf('(')));
        for (Method m : desk.getDeclaredMethods()) {
            boolean hidden = Modifier.isPrivate(m.getModifiers());
            if (hidden && names.contains(m.getName())) tell("private but named as the face: " + signature(m));
            if (!hidden && !Modifier.isPublic(m.getModifiers())) tell("neither public nor private: " + signature(m));
            if (!hidden && !due.remove(signature(m))) tell("not of the face: " + signature(m));
        }
        for (String s : due) tell("missing: " + s);
    }

    private static void checkFields(Class<?> type) {
        for (Field f : type.getDeclaredFields()) {
            int how = f.getModifiers();
            if (!Modifier.isPrivate(how)) tell("a field that is not private: " + f);
            if (Modifier.isStatic(how) && !Modifier.isFinal(how)) tell("a static field that is not final: " + f);
        }
    }

    public static void main(String[] args) {
        Class<?> desk = FaultTreeDesk.class;
        int how = desk.getModifiers();
        if (!Modifier.isPublic(how) || !Modifier.isFinal(how)) tell("the class is not public and final");
        Constructor<?>[] makers = desk.getDeclaredConstructors();
        if (makers.length != 1 || makers[0].getParameterCount() != 0 || !Modifier.isPublic(makers[0].getModifiers())) {
            tell("the constructor is not that of the document");
        }
        checkMethods(desk);
        checkFields(desk);
        for (Class<?> inside : desk.getDeclaredClasses()) {
            if (!Modifier.isStatic(inside.getModifiers())) tell("not static: " + inside);
            checkFields(inside);
        }
        System.out.println(wrong == 0 ? "the face is as due" : wrong + " faults of the face");
        if (wrong != 0) System.exit(1);
    }
}
