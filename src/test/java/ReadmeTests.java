import java.io.IOException;
import java.lang.reflect.Method;
import java.nio.file.Files;
import java.nio.file.Path;
import java.util.Set;
import java.util.TreeSet;
import java.util.regex.Matcher;
import java.util.regex.Pattern;

/** Carries out the calls of README.md, each of which has the answer that is due behind it; README.md names each call. */
public final class ReadmeTests {
    private static final Pattern CALL = Pattern.compile("bench\\.(\\w+)\\((.*)\\);\\s*// (-?\\d+):.*");

    private static void carryOut(String text) throws ReflectiveOperationException {
        String code = text.substring(text.indexOf("```java\n") + 8);
        code = code.substring(0, code.indexOf("```"));
        RampShafts bench = null;
        for (String line : code.split("\n")) {
            Matcher call = CALL.matcher(line);
            if (line.equals("RampShafts bench = new RampShafts();")) bench = new RampShafts();
            else if (call.matches()) Checks.due(line, answer(bench, call.group(1), call.group(2)), Integer.parseInt(call.group(3)));
            else if (!line.isEmpty()) Checks.fail("not a call with its answer: " + line);
        }
        if (bench == null) Checks.fail("no calls");
    }

    private static int answer(RampShafts bench, String name, String given) throws ReflectiveOperationException {
        String[] values = given.isEmpty() ? new String[0] : given.split(", ");
        for (Method method : RampShafts.class.getMethods()) {
            if (!method.getName().equals(name) || method.getParameterCount() != values.length) continue;
            Object[] arguments = new Object[values.length];
            for (int i = 0; i < values.length; i++) arguments[i] = argument(values[i], method.getParameterTypes()[i]);
            return (Integer) method.invoke(bench, arguments);
        }
        throw new NoSuchMethodException(name + "(" + given + ")");
    }

    private static Object argument(String value, Class<?> type) throws ReflectiveOperationException {
        if (type == long.class) return Long.decode(value.substring(0, value.length() - 1));
        if (value.startsWith("RampShafts.")) return RampShafts.class.getField(value.substring(11)).getInt(null);
        return Integer.decode(value);
    }

    private static void namesAllCalls(String text) {
        Set<String> missing = new TreeSet<>();
        for (Method method : RampShafts.class.getDeclaredMethods()) {
            boolean isPublic = java.lang.reflect.Modifier.isPublic(method.getModifiers());
            if (isPublic && !text.contains("`" + method.getName() + "`")) missing.add(method.getName());
        }
        if (!missing.isEmpty()) Checks.fail("not named: " + missing);
    }

    public static void main(String[] args) throws IOException, ReflectiveOperationException {
        Checks.sentence("README.md says how to use the class");
        String text = Files.readString(Path.of("README.md"));
        carryOut(text);
        namesAllCalls(text);
        Checks.end();
    }
}
