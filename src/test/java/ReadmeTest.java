import java.io.File;
import java.io.IOException;
import java.lang.reflect.InvocationTargetException;
import java.lang.reflect.Method;
import java.lang.reflect.Modifier;
import java.nio.file.Files;
import java.nio.file.Path;
import java.util.ArrayList;
import java.util.Collections;
import java.util.List;
import java.util.Map;
import java.util.regex.Matcher;
import java.util.regex.Pattern;

/** README.md holds: its examples answer as told there, and it names all calls and all tests. */
public final class ReadmeTest {
    private static final Pattern CALL = Pattern.compile("x\\.(\\w+)\\(([^()]*)\\);");
    private static final Pattern EXAMPLE = Pattern.compile("(?m)^    (x\\..*;) +// (-?\\w+)");
    private static final Map<String, Long> CONSTANTS = Map.of("NONE", (long) GuessFair.NONE, "BAD", (long) GuessFair.BAD,
        "STATE", (long) GuessFair.STATE, "FULL", (long) GuessFair.FULL, "NO", GuessFair.NO);

    public static void main(String[] args) throws IOException, ReflectiveOperationException {
        String readme = Files.readString(Path.of("README.md"));
        examples(readme);
        calls(readme);
        tests(readme);
        Due.end();
    }

    /** All examples are one run; where a line has more calls, the answer is that of the last one. */
    private static void examples(String readme) throws ReflectiveOperationException {
        GuessFair x = new GuessFair();
        int found = 0;
        Matcher example = EXAMPLE.matcher(readme);
        while (example.find()) {
            Matcher call = CALL.matcher(example.group(1));
            long answer = 0;
            while (call.find()) {
                answer = answer(x, call.group(1), call.group(2));
            }
            Due.is("README.md: " + example.group(1), answer, number(example.group(2)));
            found++;
        }
        Due.is("README.md: lines that begin with a call of x", found, readme.lines().filter(line -> line.startsWith("    x.")).count());
    }

    private static long answer(GuessFair x, String name, String given) throws ReflectiveOperationException {
        Method method = method(name);
        Class<?>[] types = method.getParameterTypes();
        String[] parts = given.isEmpty() ? new String[0] : given.split(", ");
        Object[] values = new Object[parts.length];
        for (int n = 0; n < parts.length; n++) {
            values[n] = value(types[n], parts[n]);
        }
        try {
            return ((Number) method.invoke(x, values)).longValue();
        } catch (InvocationTargetException e) {
            throw new AssertionError("README.md: " + name + "(" + given + ") throws", e);
        }
    }

    private static Method method(String name) {
        for (Method one : GuessFair.class.getDeclaredMethods()) {
            if (one.getName().equals(name) && Modifier.isPublic(one.getModifiers())) {
                return one;
            }
        }
        throw new AssertionError("README.md: there is no call " + name);
    }

    private static Object value(Class<?> type, String part) {
        if (type == boolean.class) {
            return part.equals("true");
        }
        long number = part.startsWith("'") ? part.charAt(1) : number(part);
        if (type == long.class) {
            return number;
        }
        return (int) number;
    }

    private static long number(String word) {
        Long constant = CONSTANTS.get(word);
        return constant != null ? constant : Long.parseLong(word);
    }

    private static void calls(String readme) {
        List<String> named = firstCells(readme, "| calls |");
        for (Method one : GuessFair.class.getDeclaredMethods()) {
            if (Modifier.isPublic(one.getModifiers())) {
                Due.is("README.md: how often its table of calls names " + one.getName(), Collections.frequency(named, one.getName()), 1);
            }
        }
        for (String name : named) {
            method(name);
        }
    }

    private static void tests(String readme) {
        List<String> named = firstCells(readme, "| test |");
        for (String file : new File("src/test/java").list()) {
            if (file.endsWith("Test.java")) {
                String name = file.substring(0, file.length() - 5);
                Due.is("README.md: how often its table of tests names " + name, Collections.frequency(named, name), 1);
            }
        }
        for (String name : named) {
            Due.is("README.md: there is a test " + name, new File("src/test/java/" + name + ".java").isFile() ? 1 : 0, 1);
        }
    }

    /** What stands between back quotes in the first column of the table that begins so. */
    private static List<String> firstCells(String readme, String head) {
        List<String> found = new ArrayList<>();
        int from = readme.indexOf(head);
        for (String line : readme.substring(Math.max(0, from)).split("\n")) {
            if (from < 0 || !line.startsWith("|")) {
                break;
            }
            Matcher name = Pattern.compile("`(\\w+)`").matcher(line.split("\\|")[1]);
            while (name.find()) {
                found.add(name.group(1));
            }
        }
        return found;
    }
}
