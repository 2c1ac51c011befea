import java.io.IOException;
import java.lang.reflect.Field;
import java.lang.reflect.Method;
import java.nio.file.Files;
import java.nio.file.Path;
import java.util.ArrayList;
import java.util.HashMap;
import java.util.List;
import java.util.Map;
import java.util.Set;
import java.util.TreeSet;
import java.util.regex.Matcher;
import java.util.regex.Pattern;

/**
 * What README.md shows of the class: each call of its examples is made and must answer what stands behind it,
 * and its tables must tell the whole face. It is run from the folder of README.md.
 */
public final class ReadmeTest extends Case {
    private static final Path README = Path.of("README.md");
    private static final Pattern MAKING = Pattern.compile("PartsAccumulator (\\w+) = new PartsAccumulator\\(\\);");
    private static final Pattern CALL =
        Pattern.compile("(\\w+)\\.(\\w+)\\(([^()]*)\\); +// (true|false|[A-Z]+|-?\\d+)(: .+)?");
    private static final Pattern TOLD_CALL = Pattern.compile("\\| `(\\w+) (\\w+)\\(([^()]*)\\)` \\| .+ \\|");
    private static final Pattern TOLD_CONSTANT = Pattern.compile("\\| `([A-Z]+)` \\| (-\\d+) \\| .+ \\|");

    private static final Set<String> CALLED = new TreeSet<>();
    private static final Set<String> ANSWERED = new TreeSet<>();

    public static void main(String[] args) throws IOException {
        List<String> lines = Files.readAllLines(README);
        List<List<String>> examples = examples(lines);
        for (int i = 0; i < examples.size(); i++) {
            List<String> example = examples.get(i);
            sentence("README.md, example " + (i + 1), () -> follow(example));
        }
        sentence("README.md, the examples show each call", ReadmeTest::eachCallIsShown);
        sentence("README.md, the examples show each constant", ReadmeTest::eachConstantIsShown);
        sentence("README.md, the table of calls", () -> callsAreTold(lines));
        sentence("README.md, the table of refusals", () -> constantsAreTold(lines));
        DUES.end();
    }

    private static List<List<String>> examples(List<String> lines) {
        List<List<String>> all = new ArrayList<>();
        boolean inside = false;
        for (String line : lines) {
            if (line.equals("```java")) {
                all.add(new ArrayList<>());
                inside = true;
            } else if (line.startsWith("```")) {
                inside = false;
            } else if (inside && !line.isBlank()) {
                all.get(all.size() - 1).add(line);
            }
        }
        return all;
    }

    /** A line that is neither the making of an object nor a call with its answer fails: nothing shown goes untested. */
    private static void follow(List<String> example) {
        Map<String, PartsAccumulator> objects = new HashMap<>();
        for (String line : example) {
            Matcher making = MAKING.matcher(line), call = CALL.matcher(line);
            if (making.matches()) {
                objects.put(making.group(1), new PartsAccumulator());
            } else if (call.matches() && objects.containsKey(call.group(1))) {
                dueAnswer(line, objects.get(call.group(1)), call);
            } else {
                due("a line that can be read: " + line, false, true);
            }
        }
    }

    private static void dueAnswer(String line, PartsAccumulator x, Matcher call) {
        Method method = methodNamed(call.group(2));
        CALLED.add(method.getName());
        ANSWERED.add(call.group(4));
        try {
            due(line, number(method.invoke(x, arguments(method, call.group(3)))), shownAnswer(method, call.group(4)));
        } catch (ReflectiveOperationException e) {
            throw new IllegalStateException(line, e);
        }
    }

    private static Method methodNamed(String name) {
        for (Method method : PartsAccumulator.class.getMethods()) {
            if (method.getName().equals(name) && method.getDeclaringClass() == PartsAccumulator.class) {
                return method;
            }
        }
        throw new IllegalStateException("no call of the face: " + name);
    }

    private static Object[] arguments(Method method, String shown) {
        String[] words = shown.isEmpty() ? new String[0] : shown.split(", ");
        Class<?>[] types = method.getParameterTypes();
        if (words.length != types.length) {
            throw new IllegalStateException(method.getName() + " with " + words.length + " arguments");
        }
        Object[] values = new Object[words.length];
        for (int i = 0; i < words.length; i++) {
            values[i] = argument(types[i], words[i]);
        }
        return values;
    }

    /** As javac reads it: a number without an L must fit an int, true and false are for a boolean alone. */
    private static Object argument(Class<?> type, String word) {
        if (type == boolean.class && (word.equals("true") || word.equals("false"))) {
            return word.equals("true");
        }
        if (type == long.class) {
            return word.endsWith("L") ? Long.parseLong(word.substring(0, word.length() - 1)) : Integer.parseInt(word);
        }
        if (type == int.class) {
            return Integer.parseInt(word);
        }
        throw new IllegalStateException("no " + type + ": " + word);
    }

    private static long number(Object answer) {
        return answer instanceof Boolean yes ? (yes ? 1 : 0) : ((Number) answer).longValue();
    }

    private static long shownAnswer(Method method, String word) throws ReflectiveOperationException {
        boolean isTruth = word.equals("true") || word.equals("false");
        if (isTruth != (method.getReturnType() == boolean.class)) {
            throw new IllegalStateException(method.getName() + " never answers " + word);
        }
        if (isTruth) {
            return word.equals("true") ? 1 : 0;
        }
        return Character.isLetter(word.charAt(0)) ? PartsAccumulator.class.getField(word).getInt(null) : Long.parseLong(word);
    }

    private static void eachCallIsShown() {
        for (Method method : PartsAccumulator.class.getMethods()) {
            if (method.getDeclaringClass() == PartsAccumulator.class) {
                due("an example shows " + method.getName(), CALLED.contains(method.getName()), true);
            }
        }
    }

    private static void eachConstantIsShown() {
        for (Field constant : PartsAccumulator.class.getFields()) {
            due("an example answers " + constant.getName(), ANSWERED.contains(constant.getName()), true);
        }
    }

    private static void callsAreTold(List<String> lines) {
        List<String> told = new ArrayList<>();
        for (String line : lines) {
            Matcher call = TOLD_CALL.matcher(line);
            if (call.matches()) {
                String types = call.group(3).replaceAll("(\\w+) \\w+", "$1");
                told.add(call.group(1) + " " + call.group(2) + "[" + types + "]");
            }
        }
        due("all calls are told: " + told, new TreeSet<>(told).equals(Face.shown()), true);
        due("how many are told", told.size(), Face.shown().size());
    }

    private static void constantsAreTold(List<String> lines) {
        Map<String, Integer> told = new HashMap<>();
        for (String line : lines) {
            Matcher constant = TOLD_CONSTANT.matcher(line);
            if (constant.matches()) {
                told.put(constant.group(1), Integer.parseInt(constant.group(2)));
            }
        }
        for (Field constant : PartsAccumulator.class.getFields()) {
            String name = constant.getName();
            due(name + " is told", told.containsKey(name), true);
            due(name, told.getOrDefault(name, 0), valueOf(constant));
        }
        due("how many are told", told.size(), PartsAccumulator.class.getFields().length);
    }

    private static int valueOf(Field constant) {
        try {
            return constant.getInt(null);
        } catch (IllegalAccessException e) {
            throw new IllegalStateException(e);
        }
    }
}
