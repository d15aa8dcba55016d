import com.sun.management.ThreadMXBean;
import java.io.IOException;
import java.lang.management.ManagementFactory;
import java.lang.reflect.Constructor;
import java.lang.reflect.Field;
import java.lang.reflect.Method;
import java.lang.reflect.Modifier;
import java.nio.file.Files;
import java.nio.file.Path;
import java.util.Arrays;
import java.util.Set;
import java.util.TreeSet;
import java.util.regex.Matcher;
import java.util.regex.Pattern;

/** The rules of LANGUAGE.md that can be looked up: the face, the words, the room. */
public final class LanguageTest {
    private static final Path SOURCE = Path.of("src/main/java/GuessFair.java");
    private static final Path DOCUMENT = Path.of("../shared/DOC.md");
    private static final String[] BARRED = {"\\bthrows?\\b", "\\btry\\b", "\\bcatch\\b", "\\bfinally\\b", "\\bsynchronized\\b",
        "\\bassert\\b", "\\bpackage\\b", "->", "::", "\\w+Exact\\b", "\\bThread\\b", "\\bSystem\\.(?!arraycopy)",
        "import (?!java\\.util\\.(ArrayList|List|Iterator|Arrays);)", "\\bhashCode\\b", "\\btoString\\b", "\\bwhile \\(true\\)"};

    public static void main(String[] args) throws IOException {
        face();
        constants();
        words();
        insides();
        lengths();
        room();
        Due.end();
    }

    private static void face() throws IOException {
        Class<?> c = GuessFair.class;
        Due.is("rule 1: public and final", c.getModifiers(), Modifier.PUBLIC | Modifier.FINAL);
        Set<String> wants = new TreeSet<>();
        Matcher m = Pattern.compile("    public (int|long) (\\w+)\\((.*)\\);").matcher(Files.readString(DOCUMENT));
        while (m.find()) {
            wants.add(m.group(1) + " " + m.group(2) + "(" + m.group(3).replaceAll(" \\w+(?=,|$)", "").replace(" ", "") + ")");
        }
        Due.is("methods that the document tells", wants.size(), 43);
        Set<String> names = new TreeSet<>();
        for (Method one : c.getDeclaredMethods()) {
            if (Modifier.isPublic(one.getModifiers())) {
                String types = String.join(",", Arrays.stream(one.getParameterTypes()).map(Class::getName).toList());
                isTrue("rule 1: no other than " + one, wants.remove(one.getReturnType() + " " + one.getName() + "(" + types + ")"));
                isTrue("rule 1: not static: " + one, !Modifier.isStatic(one.getModifiers()));
                names.add(one.getName());
            } else {
                isTrue("rule 1: private: " + one, Modifier.isPrivate(one.getModifiers()));
            }
        }
        isTrue("rule 1: methods that miss: " + wants, wants.isEmpty());
        for (Method one : c.getDeclaredMethods()) {
            isTrue("rule 1: no such name: " + one, Modifier.isPublic(one.getModifiers()) || !names.contains(one.getName()));
        }
        Constructor<?>[] made = c.getDeclaredConstructors();
        Due.is("rule 1: one constructor", made.length, 1);
        isTrue("rule 1: a public one of nothing", Modifier.isPublic(made[0].getModifiers()) && made[0].getParameterCount() == 0);
        for (Class<?> one : c.getDeclaredClasses()) {
            isTrue("rule 1: " + one + " is static", Modifier.isStatic(one.getModifiers()));
            isTrue("rule 1: " + one + " is not shown", !Modifier.isPublic(one.getModifiers()) && !Modifier.isProtected(one.getModifiers()));
        }
    }

    private static void constants() {
        Due.is("NONE", GuessFair.NONE, -1);
        Due.is("BAD", GuessFair.BAD, -2);
        Due.is("STATE", GuessFair.STATE, -3);
        Due.is("FULL", GuessFair.FULL, -4);
        Due.is("NO", GuessFair.NO, Long.MIN_VALUE);
        Set<String> shown = Set.of("NONE", "BAD", "STATE", "FULL", "NO");
        for (Field one : GuessFair.class.getDeclaredFields()) {
            boolean isShown = Modifier.isPublic(one.getModifiers());
            isTrue("rule 1: " + one, isShown == shown.contains(one.getName()) && (isShown || Modifier.isPrivate(one.getModifiers())));
            isTrue("rule 5: " + one, !Modifier.isStatic(one.getModifiers()) || Modifier.isFinal(one.getModifiers()));
        }
    }

    private static void words() throws IOException {
        String source = Files.readString(SOURCE);
        isTrue("signs 1 to 127 alone", source.chars().allMatch(c -> c < 128));
        String code = source.replaceAll("(?s)/\\*.*?\\*/", "").replaceAll("//[^\n]*", "").replaceAll("\"[^\"\n]*\"", "\"\"");
        for (String barred : BARRED) {
            Matcher m = Pattern.compile(barred).matcher(code);
            isTrue("no " + barred, !m.find());
        }
    }

    private static void insides() {
        Class<?>[] inside = GuessFair.class.getDeclaredClasses();
        isTrue("rule 11: some twelve classes: " + inside.length, inside.length <= 12);
        for (Class<?> one : inside) {
            int fields = 0;
            for (Field field : one.getDeclaredFields()) {
                boolean isStatic = Modifier.isStatic(field.getModifiers());
                isTrue("rule 5: " + field, !isStatic || Modifier.isFinal(field.getModifiers()));
                fields += isStatic ? 0 : 1;
            }
            isTrue("rule 11: some twenty fields: " + one, fields <= 20);
            for (Method method : one.getDeclaredMethods()) {
                isTrue("rule 11: seven parameters: " + method, method.getParameterCount() <= 7);
            }
        }
    }

    private static void lengths() throws IOException {
        Matcher m = Pattern.compile("(?ms)^( {4}| {8})(?:\\w[\\w\\[\\] ]*\\([^)]*\\)) \\{$.*?^\\1\\}$").matcher(Files.readString(SOURCE));
        int found = 0;
        while (m.find()) {
            isTrue("rule 11: some sixty lines: " + m.group().lines().findFirst().get(), m.group().lines().count() <= 60);
            found++;
        }
        isTrue("methods that were looked at: " + found, found > 100);
    }

    /** The dearest calls, as many as a run may have, put nothing into the room. */
    private static void room() {
        ThreadMXBean threads = (ThreadMXBean) ManagementFactory.getThreadMXBean();
        GuessFair x = Due.fair(1, 2, 3, 4, 5, 6);
        for (int n = 0; n < 8; n++) {
            x.envelope(n % 7, 9, 63, 9);
        }
        ask(x);
        long before = threads.getCurrentThreadAllocatedBytes();
        for (int n = 0; n < 20; n++) {
            ask(x);
        }
        long bytes = threads.getCurrentThreadAllocatedBytes() - before;
        isTrue("the room: " + bytes + " bytes", bytes < 100000);
    }

    private static void ask(GuessFair x) {
        x.best(1, 1);
        x.when(1, 60, 1);
        x.safest(1);
        x.sure();
        x.hedge();
        x.cheap();
        x.crowd(1);
        x.tape(0, 3, 60);
        x.shift(0, 0, 0, 1, 59);
        x.judge(0, 0);
        x.image();
        x.undo();
        x.act(6, 2, 1);
        x.feed('m');
        x.law();
    }

    private static void isTrue(String what, boolean is) {
        Due.is(what, is ? 1 : 0, 1);
    }
}
