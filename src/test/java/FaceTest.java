import java.lang.reflect.Constructor;
import java.lang.reflect.Field;
import java.lang.reflect.Method;
import java.lang.reflect.Modifier;
import java.util.ArrayList;
import java.util.Arrays;
import java.util.List;
import java.util.Set;
import java.util.TreeSet;

/** The class shows the document's face and nothing more (LANGUAGE.md, rules 1, 5 and 11). */
public final class FaceTest {
    private static final Set<String> FACE = new TreeSet<>(List.of(
        "int device()",
        "int tell(int,long,int,long,long,long)",
        "boolean reset(int,long)",
        "int life(int)",
        "int set(int)",
        "int join(int,int)",
        "boolean correct(int,int,int,long,long,long)",
        "long last(int,int,int)",
        "long known(int,int,int,long,long)",
        "int gap(int,int,int)",
        "int conflict(int,int,int)",
        "int settle(int,int,int,int)",
        "boolean equal(int,int)",
        "int batch(int)",
        "boolean endBatch(int)",
        "int retain(int,long)",
        "long kept(int,int)",
        "boolean mark(int,long,long)",
        "long corrected(int,long,int)",
        "int play(long,int)"));

    private static final List<String> wrong = new ArrayList<>();

    public static void main(String[] args) {
        Class<?> face = DeviceSets.class;
        holds(Modifier.isPublic(face.getModifiers()) && Modifier.isFinal(face.getModifiers()), "public final class");
        checkMethods(face);
        checkFields(face);
        checkConstructors(face);
        Class<?>[] inside = face.getDeclaredClasses();
        holds(inside.length <= 11, "at most twelve classes");
        for (Class<?> c : inside) {
            checkInside(c);
        }
        wrong.forEach(System.out::println);
        System.out.println(wrong.isEmpty() ? "the face is as it should be" : wrong.size() + " faults of the face");
        if (!wrong.isEmpty()) {
            System.exit(1);
        }
    }

    private static void holds(boolean so, String what) {
        if (!so) {
            wrong.add("does not hold: " + what);
        }
    }

    private static void checkMethods(Class<?> face) {
        Set<String> shown = new TreeSet<>();
        for (Method m : face.getDeclaredMethods()) {
            if (Modifier.isPublic(m.getModifiers())) {
                shown.add(signature(m));
                holds(!Modifier.isStatic(m.getModifiers()), m + " is of an object");
            } else {
                holds(Modifier.isPrivate(m.getModifiers()), m + " is private");
                holds(!isFaceName(m.getName()), m + " bears no public name");
            }
        }
        holds(shown.equals(FACE), "the public methods are those of the document: " + shown);
    }

    private static String signature(Method m) {
        String parameters = Arrays.toString(Arrays.stream(m.getParameterTypes()).map(Class::getName).toArray());
        return m.getReturnType().getName() + " " + m.getName()
            + parameters.replace('[', '(').replace(']', ')').replace(" ", "");
    }

    private static boolean isFaceName(String name) {
        return FACE.stream().anyMatch(s -> s.contains(" " + name + "("));
    }

    private static void checkFields(Class<?> c) {
        for (Field f : c.getDeclaredFields()) {
            int modifiers = f.getModifiers();
            holds(Modifier.isPrivate(modifiers) || f.getName().equals("NONE"), f + " is private");
            holds(!Modifier.isStatic(modifiers) || Modifier.isFinal(modifiers), f + " is final if static");
            if (f.getName().equals("NONE")) {
                holds(f.toString().equals("public static final int DeviceSets.NONE"), f + " is as in the document");
            }
        }
    }

    private static void checkConstructors(Class<?> face) {
        Constructor<?>[] all = face.getDeclaredConstructors();
        holds(all.length == 1 && all[0].toString().equals("public DeviceSets()"), "one constructor: " + Arrays.toString(all));
    }

    private static void checkInside(Class<?> c) {
        int modifiers = c.getModifiers();
        holds(Modifier.isStatic(modifiers), c + " is static");
        holds(!Modifier.isPublic(modifiers) && !Modifier.isProtected(modifiers), c + " is not shown");
        checkFields(c);
        for (Method m : c.getDeclaredMethods()) {
            holds(!Modifier.isPublic(m.getModifiers()), m + " is not public");
            holds(!isFaceName(m.getName()), m + " bears no public name");
            holds(m.getParameterCount() <= 7, m + " takes at most seven parameters");
        }
    }
}
