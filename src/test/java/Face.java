import java.lang.reflect.Method;
import java.lang.reflect.Modifier;
import java.util.Set;
import java.util.TreeSet;

/** How the tests write down a method of the class: "int add[long]". */
final class Face {
    private Face() {
    }

    /** The methods that the class shows, private ones left out. */
    static Set<String> shown() {
        Set<String> all = new TreeSet<>();
        for (Method m : PartsAccumulator.class.getDeclaredMethods()) {
            if (!Modifier.isPrivate(m.getModifiers())) {
                all.add(describe(m));
            }
        }
        return all;
    }

    private static String describe(Method m) {
        StringBuilder types = new StringBuilder();
        for (Class<?> type : m.getParameterTypes()) {
            types.append(types.length() == 0 ? "" : ", ").append(type.getName());
        }
        return m.getReturnType().getName() + " " + m.getName() + "[" + types + "]";
    }
}
