import java.lang.reflect.Constructor;
import java.lang.reflect.Field;
import java.lang.reflect.Method;
import java.lang.reflect.Modifier;
import java.util.Arrays;
import java.util.Set;
import java.util.TreeSet;

/** The face of the class: what the document tells, and no other member that is not private. */
public final class FaceTest {
    private static final String[] FACE = {
        "int station(int,int,int)", "int undo()", "int base(int,int)", "int gear(int,int,int)", "int set(int,int)",
        "int limit(int,int)", "int reach(int)", "int shift(int)", "int quickest(int,int)", "long along(int) IAE",
        "int best(int,int)", "long lap()", "long worth(int,int) IAE", "int wants()", "int spend(int)", "int where(int)",
        "int drive(int,int)", "long delta(int) IAE", "int lost()", "int tyre(int,int,int)", "boolean two(boolean)",
        "long on(int,int) IAE", "long race(int) IAE", "int plan(int,int,int)", "int stops(int)", "int count(int)",
        "int keep(int,int,int)", "int make(int,int,int)", "long element(int,int) IAE ISE", "int copy(int,int,int,int,int)",
        "int weight(int)", "int toss(int)"};

    public static void main(String[] args) {
        Set<String> wrong = new TreeSet<>();
        Set<String> want = new TreeSet<>(Arrays.asList(FACE));
        Set<String> names = new TreeSet<>();
        for (Method m : LapBoard.class.getDeclaredMethods()) {
            if (Modifier.isPublic(m.getModifiers())) {
                names.add(m.getName());
                if (!want.remove(told(m))) {
                    wrong.add("not of the face: " + told(m));
                }
            } else if (!Modifier.isPrivate(m.getModifiers())) {
                wrong.add("not private: " + m);
            }
        }
        for (String missing : want) {
            wrong.add("missing: " + missing);
        }
        for (Method m : LapBoard.class.getDeclaredMethods()) {
            if (Modifier.isPrivate(m.getModifiers()) && names.contains(m.getName())) {
                wrong.add("a private method bears the name of a public one: " + m);
            }
        }
        checkConstructors(wrong);
        checkFields(LapBoard.class, wrong);
        checkClasses(names, wrong);
        if (!Modifier.isFinal(LapBoard.class.getModifiers()) || !Modifier.isPublic(LapBoard.class.getModifiers())) {
            wrong.add("the class is not public and final");
        }
        for (String line : wrong) {
            System.out.println(line);
        }
        System.out.println(wrong.isEmpty() ? "FaceTest: the face is as due" : "FaceTest: " + wrong.size() + " wrong");
        if (!wrong.isEmpty()) {
            System.exit(1);
        }
    }

    private static String told(Method m) {
        StringBuilder told = new StringBuilder();
        told.append(m.getReturnType().getName()).append(' ').append(m.getName()).append('(');
        for (int i = 0; i < m.getParameterCount(); i++) {
            told.append(i > 0 ? "," : "").append(m.getParameterTypes()[i].getName());
        }
        told.append(')');
        for (Class<?> thrown : m.getExceptionTypes()) {
            told.append(thrown == IllegalArgumentException.class ? " IAE" : thrown == IllegalStateException.class ? " ISE" : " other");
        }
        return told.toString();
    }

    private static void checkConstructors(Set<String> wrong) {
        Constructor<?>[] all = LapBoard.class.getDeclaredConstructors();
        if (all.length != 1 || all[0].getParameterCount() != 0 || !Modifier.isPublic(all[0].getModifiers())) {
            wrong.add("constructors: " + Arrays.toString(all));
        }
    }

    private static void checkFields(Class<?> c, Set<String> wrong) {
        int fields = 0;
        for (Field f : c.getDeclaredFields()) {
            boolean isStatic = Modifier.isStatic(f.getModifiers());
            fields += isStatic ? 0 : 1;
            if (isStatic && !Modifier.isFinal(f.getModifiers())) {
                wrong.add("static and not final: " + f);
            }
            if (c == LapBoard.class && !Modifier.isPrivate(f.getModifiers())) {
                wrong.add("not private: " + f);
            }
        }
        if (fields > 20) {
            wrong.add(c.getName() + " has " + fields + " fields");
        }
    }

    private static void checkClasses(Set<String> names, Set<String> wrong) {
        Class<?>[] inner = LapBoard.class.getDeclaredClasses();
        if (inner.length > 11) {
            wrong.add(inner.length + " classes inside");
        }
        for (Class<?> c : inner) {
            checkFields(c, wrong);
            if (!Modifier.isStatic(c.getModifiers()) || Modifier.isPublic(c.getModifiers()) || Modifier.isProtected(c.getModifiers())) {
                wrong.add("not static, or not private or package-visible: " + c);
            }
            for (Method m : c.getDeclaredMethods()) {
                if (names.contains(m.getName())) {
                    wrong.add("bears the name of a public method: " + m);
                }
                if (m.getParameterCount() > 7) {
                    wrong.add("more than seven parameters: " + m);
                }
            }
        }
    }
}
