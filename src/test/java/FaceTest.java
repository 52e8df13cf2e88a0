import java.lang.reflect.Constructor;
import java.lang.reflect.Field;
import java.lang.reflect.Method;
import java.lang.reflect.Modifier;
import java.util.TreeSet;

/** The constants, the face and promise 1. */
final class FaceTest {
    static void test(Check check) {
        constants(check);
        face(check);
        newObject(check);
    }

    private static void constants(Check check) {
        check.about("constants");
        check.same("UNKNOWN", LentArms.UNKNOWN, -1);
        check.same("BAD_VALUE", LentArms.BAD_VALUE, -2);
        check.same("FULL", LentArms.FULL, -3);
        check.same("NOT_POSSIBLE", LentArms.NOT_POSSIBLE, -4);
        check.same("NONE", LentArms.NONE, -5);
    }

    private static void face(Check check) {
        check.about("face");
        check.holds("public final", Modifier.isPublic(LentArms.class.getModifiers())
                && Modifier.isFinal(LentArms.class.getModifiers()));
        TreeSet<String> methods = new TreeSet<>();
        for (Method method : LentArms.class.getDeclaredMethods()) {
            if (!Modifier.isPrivate(method.getModifiers())) {
                methods.add(method.getName());
                check.holds(method.getName() + " is public", Modifier.isPublic(method.getModifiers()));
            }
        }
        check.holds("methods: " + methods, methods.toString().equals("[addArm, arm, bestHome, clearText, "
                + "count, ifRun, keep, load, loadAll, moveHome, quay, reason, removeArm, restore, run, send, "
                + "set, tie, type, undo, waiting, way]"));
        TreeSet<String> fields = new TreeSet<>();
        for (Field field : LentArms.class.getDeclaredFields()) {
            if (!Modifier.isPrivate(field.getModifiers())) {
                fields.add(field.getName());
            }
        }
        check.holds("fields: " + fields,
                fields.toString().equals("[BAD_VALUE, FULL, NONE, NOT_POSSIBLE, UNKNOWN]"));
        for (Constructor<?> constructor : LentArms.class.getDeclaredConstructors()) {
            check.same("arguments of the constructor", constructor.getParameterCount(), 0);
        }
    }

    private static void newObject(Check check) {
        check.about("promise 1, a new object");
        LentArms x = new LentArms();
        int[] counts = {0, 0, 0, 0, 0, 0, 0, 0, 0, 0, 2, 8, 2, 8, 2, 6, 2, 8, 0, 0, 0, 0};
        for (int what = 0; what < counts.length; what++) {
            check.same("count(" + what + ")", x.count(what), counts[what]);
        }
        for (int quay = 0; quay < 12; quay++) {
            for (int what = 0; what < 7; what++) {
                check.same("quay(" + quay + ", " + what + ")", x.quay(quay, what), what == 6 ? -5 : 0);
            }
            check.same("waiting(" + quay + ", 0, 0)", x.waiting(quay, 0, 0), -1);
        }
        check.same("arm(0, 0)", x.arm(0, 0), -1);
        check.same("way(0, 0)", x.way(0, 0), -5);
        check.same("undo()", x.undo(), -5);
        check.same("restore()", x.restore(), -5);
        check.same("clearText()", x.clearText(), 0);
    }

    private FaceTest() {
    }
}
