import java.lang.reflect.Constructor;
import java.lang.reflect.Field;
import java.lang.reflect.Method;
import java.lang.reflect.Modifier;
import java.util.Arrays;
import java.util.Set;
import java.util.TreeSet;

/** The class shows the document's face and nothing else (rules 1, 5 and 11 of LANGUAGE.md). */
public final class FaceTest {
    private static final Set<String> FACE = new TreeSet<>(Arrays.asList(
        "boolean modulus[long, long]", "int prime[long]", "int add[long]", "int remove[long]", "int close[]",
        "int size[int]", "int state[long]", "long accumulator[int, boolean]", "int note[int, int, int]",
        "long witness[long, boolean]", "int issue[long]", "boolean hold[long, long, int]", "long hand[boolean]",
        "int factor[]", "int check[long, int]", "int advance[long, int]", "int exclude[long]",
        "int checkExclude[long, int]"));
    private static final Set<String> CONSTANTS = new TreeSet<>(Arrays.asList(
        "NONE", "BAD", "PRESENT", "ABSENT", "CLASH", "FULL", "WRONG"));
    private static final Dues DUES = new Dues();

    public static void main(String[] args) {
        Class<?> face = PartsAccumulator.class;
        DUES.due("the class is public", Modifier.isPublic(face.getModifiers()), true);
        DUES.due("the class is final", Modifier.isFinal(face.getModifiers()), true);
        constructors(face);
        methods(face);
        fields(face);
        for (Class<?> inside : face.getDeclaredClasses()) {
            nested(inside);
        }
        DUES.end();
    }

    private static void constructors(Class<?> face) {
        Constructor<?>[] all = face.getDeclaredConstructors();
        DUES.due("constructors", all.length, 1);
        DUES.due("the constructor is public", Modifier.isPublic(all[0].getModifiers()), true);
        DUES.due("parameters of the constructor", all[0].getParameterCount(), 0);
    }

    private static void methods(Class<?> face) {
        for (Method m : face.getDeclaredMethods()) {
            DUES.due("parameters of " + m.getName() + " are at most 7", m.getParameterCount() <= 7, true);
            if (!Modifier.isPrivate(m.getModifiers())) {
                DUES.due(m.getName() + " is public", Modifier.isPublic(m.getModifiers()), true);
            } else {
                DUES.due("the private method " + m.getName() + " bears a name of the face", isFaceName(m.getName()), false);
            }
        }
        DUES.due("methods " + Face.shown(), Face.shown().equals(FACE), true);
    }

    private static boolean isFaceName(String name) {
        for (String described : FACE) {
            if (described.contains(" " + name + "[")) {
                return true;
            }
        }
        return false;
    }

    private static void fields(Class<?> face) {
        Set<String> shown = new TreeSet<>();
        for (Field f : face.getDeclaredFields()) {
            int how = f.getModifiers();
            if (!Modifier.isPrivate(how)) {
                shown.add(f.getName());
                boolean constant = Modifier.isPublic(how) && Modifier.isStatic(how) && Modifier.isFinal(how);
                DUES.due(f.getName() + " is a public constant", constant && f.getType() == int.class, true);
            }
            DUES.due(f.getName() + " is static only if final", !Modifier.isStatic(how) || Modifier.isFinal(how), true);
        }
        DUES.due("constants " + shown, shown.equals(CONSTANTS), true);
    }

    private static void nested(Class<?> inside) {
        int how = inside.getModifiers();
        String name = inside.getSimpleName();
        DUES.due(name + " is static", Modifier.isStatic(how), true);
        DUES.due(name + " is private or package-visible", Modifier.isPublic(how) || Modifier.isProtected(how), false);
        for (Field f : inside.getDeclaredFields()) {
            boolean constant = !Modifier.isStatic(f.getModifiers()) || Modifier.isFinal(f.getModifiers());
            DUES.due(name + "." + f.getName() + " is static only if final", constant, true);
        }
        for (Method m : inside.getDeclaredMethods()) {
            DUES.due("the inner method " + m.getName() + " bears a name of the face", isFaceName(m.getName()), false);
        }
    }
}
