import java.lang.management.ManagementFactory;
import java.lang.reflect.Constructor;
import java.lang.reflect.Field;
import java.lang.reflect.Method;
import java.lang.reflect.Modifier;
import java.nio.file.Files;
import java.nio.file.Path;
import java.util.ArrayList;
import java.util.Arrays;
import java.util.List;
import java.util.regex.Pattern;

/** The rules of ../shared/LANGUAGE.md that can be seen from outside, in the classes, or in the program's text. */
final class LanguageTest {
    /** By rules: 2, 4, 6, 13. */
    private static final String[] FORBIDDEN = {
        "::", "\\bpackage\\b", "\\bprotected\\b", "\\bstatic \\{",
        "\\bSystem\\.(?!arraycopy\\b)", "\\bMath\\.\\w+Exact\\b", "\\bRandom\\b", "\\bThread\\b", "\\bjava\\.(?!util\\.)",
        "\\bthrow\\b", "\\bthrows\\b", "\\btry\\b", "\\bcatch\\b", "\\bsynchronized\\b", "\\bassert\\b", "\\bhashCode\\b",
        "\\bcurrentTimeMillis\\b", "\\bnanoTime\\b"};
    private static final int MOST_CLASSES = 12;
    private static final int MOST_FIELDS = 20;
    private static final int MOST_PARAMETERS = 7;
    private static final int MOST_LINES = 60;
    /** Far below the room of all calls of one run: 600,000 objects and arrays, 7.3 million fields and elements. */
    private static final long MOST_BYTES = 1_000_000;

    static void test(Check check, String file) throws Exception {
        check.about("language");
        String code = withoutComments(Files.readString(Path.of(file)));
        for (String word : FORBIDDEN) {
            check.holds("no " + word, !Pattern.compile(word).matcher(code).find());
        }
        check.holds("only signs 1 to 127", code.chars().allMatch(sign -> sign > 0 && sign < 128));
        shortMethods(check, code);
        classes(check);
        room(check);
    }

    private static String withoutComments(String code) {
        return code.replaceAll("(?s)/\\*.*?\\*/", "").replaceAll("//[^\n]*", "");
    }

    private static void shortMethods(Check check, String code) {
        int begun = 0;
        String[] lines = code.split("\n");
        for (int i = 0; i < lines.length; i++) {
            boolean opens = lines[i].matches(" {4,8}[^ =].*\\) \\{");
            begun = opens ? i : begun;
            if (lines[i].matches(" {4,8}\\}")) {
                check.holds("short: " + lines[begun].trim(), i - begun <= MOST_LINES);
            }
        }
    }

    private static void classes(Check check) {
        List<Class<?>> all = new ArrayList<>(Arrays.asList(LentArms.class.getDeclaredClasses()));
        all.add(LentArms.class);
        check.holds("classes", all.size() <= MOST_CLASSES);
        for (Class<?> one : all) {
            boolean face = one == LentArms.class;
            check.holds(one + " is static and not public", face || Modifier.isStatic(one.getModifiers())
                    && !Modifier.isPublic(one.getModifiers()) && !Modifier.isProtected(one.getModifiers()));
            fields(check, one);
            methods(check, one);
            for (Constructor<?> constructor : one.getDeclaredConstructors()) {
                check.holds("parameters of " + constructor, constructor.getParameterCount() <= MOST_PARAMETERS);
            }
        }
    }

    private static void fields(Check check, Class<?> one) {
        int own = 0;
        for (Field field : one.getDeclaredFields()) {
            boolean constant = Modifier.isStatic(field.getModifiers());
            check.holds(field + " is final", !constant || Modifier.isFinal(field.getModifiers()));
            own += constant ? 0 : 1;
        }
        check.holds("fields of " + one, own <= MOST_FIELDS);
    }

    private static void methods(Check check, Class<?> one) {
        for (Method method : one.getDeclaredMethods()) {
            check.holds("parameters of " + method, method.getParameterCount() <= MOST_PARAMETERS);
            boolean hidden = one != LentArms.class || Modifier.isPrivate(method.getModifiers());
            check.holds(method + " has a name of its own", !hidden || !isOfTheFace(method.getName()));
        }
    }

    private static boolean isOfTheFace(String name) {
        return Arrays.stream(LentArms.class.getMethods())
                .anyMatch(m -> m.getDeclaringClass() == LentArms.class && m.getName().equals(name));
    }

    /** The room is one for all calls: a full harbour and its 512 dearest calls must leave most of it. */
    private static void room(Check check) {
        long before = bytesMade();
        LentArms x = new LentArms();
        Calls.arms(x, 0, false, 16);
        for (int i = 0; i < 480; i++) {
            x.bestHome(60);
            x.ifRun(200, i % 4);
        }
        check.holds("room", bytesMade() - before < MOST_BYTES);
    }

    private static long bytesMade() {
        com.sun.management.ThreadMXBean threads = (com.sun.management.ThreadMXBean) ManagementFactory.getThreadMXBean();
        return threads.getCurrentThreadAllocatedBytes();
    }

    private LanguageTest() {
    }
}
