/** Promises 2 to 6: arms. */
final class ArmsTest {
    static void test(Check check) {
        addArm(check);
        removeIdleArm(check);
        removeWorkingArm(check);
        removeArmOnItsWay(check);
        tie(check);
        moveHome(check);
        send(check);
    }

    private static void addArm(Check check) {
        check.about("promise 2, addArm");
        LentArms x = new LentArms();
        for (int home : Calls.FAR_OFF) {
            check.same("addArm(" + home + ", false)", x.addArm(home, false), -1);
        }
        check.same("addArm(12, true)", x.addArm(12, true), -1);
        check.same("errors are not recorded", x.count(20), 0);
        check.same("addArm(0, false)", x.addArm(0, false), 0);
        check.same("addArm(11, true)", x.addArm(11, true), 1);
        int[] told = {11, 11, 0, 0, 1, 0, 0, 0};
        for (int what = 0; what < told.length; what++) {
            check.same("arm(1, " + what + ")", x.arm(1, what), told[what]);
        }
        check.same("arm(0, 0)", x.arm(0, 0), 0);
        check.same("arm(0, 4)", x.arm(0, 4), 0);
        check.same("it is an act", x.count(20), 2);
        for (int number = 2; number < 16; number++) {
            check.same("addArm(5, false)", x.addArm(5, false), number);
        }
        check.same("a 17th arm", x.addArm(5, false), -3);
        check.same("UNKNOWN before FULL", x.addArm(12, false), -1);
        check.same("count(1)", x.count(1), 16);
        x.removeArm(3);
        check.same("room again", x.addArm(2, false), 15);
        check.same("arm(15, 0)", x.arm(15, 0), 2);
    }

    private static void removeIdleArm(Check check) {
        check.about("promise 3, removeArm of idle ones");
        LentArms x = new LentArms();
        check.same("removeArm(0)", x.removeArm(0), -1);
        x.addArm(1, false);
        x.addArm(2, true);
        x.addArm(3, false);
        for (int arm : Calls.FAR_OFF) {
            check.same("removeArm(" + arm + ")", x.removeArm(arm), -1);
        }
        check.same("removeArm(3)", x.removeArm(3), -1);
        check.same("errors are not recorded", x.count(20), 3);
        Calls.loadTimes(x, 2, 5, 9);
        check.same("an idle one where 9 wait", x.removeArm(1), 2);
        check.same("the line", x.quay(2, 3), 9);
        check.same("one behind it has 1 less", x.arm(1, 0), 3);
        check.same("arm(1, 4)", x.arm(1, 4), 0);
        check.same("one before it stays", x.arm(0, 0), 1);
        check.same("arm(2, 0)", x.arm(2, 0), -1);
        check.same("undo()", x.undo(), 3);
        check.same("it was an act", x.count(1), 3);
        check.same("removeArm(2)", x.removeArm(2), 2);
        check.same("removeArm(0)", x.removeArm(0), 1);
        check.same("removeArm(0)", x.removeArm(0), 0);
        check.same("removeArm(0)", x.removeArm(0), -1);
    }

    private static void removeWorkingArm(Check check) {
        check.about("promise 3, removeArm of one that works");
        LentArms x = new LentArms();
        x.addArm(4, false);
        Calls.loads(x, 4, 9, 7, 3);
        x.run(4);
        check.same("work left", x.arm(0, 3), 6);
        check.same("removeArm(0)", x.removeArm(0), 0);
        check.same("the line", x.quay(4, 3), 3);
        check.same("the head has the work that is left", x.waiting(4, 0, 0), 6);
        check.same("it waits from 0 on", x.waiting(4, 0, 1), 0);
        check.same("the next one", x.waiting(4, 1, 0), 7);
        check.same("waited on", x.waiting(4, 1, 1), 4);
        check.same("the last one", x.waiting(4, 2, 0), 3);
        check.same("work together", x.quay(4, 4), 16);
        check.same("the longest is not the head", x.quay(4, 6), 4);
        check.same("work done stays", x.count(7), 3);
        x.run(1);
        check.same("it waits", x.waiting(4, 0, 1), 1);
        x.undo();
        x.undo();
        Calls.loadTimes(x, 4, 1, 7);
        check.same("9 wait", x.quay(4, 3), 9);
        int states = x.count(20);
        check.same("no room for its load", x.removeArm(0), -3);
        check.same("removeArm(1)", x.removeArm(1), -1);
        check.same("it stays", x.count(1), 1);
        check.same("not recorded", x.count(20), states);
        x.undo();
        check.same("room for its load", x.removeArm(0), 0);
        check.same("9 wait", x.quay(4, 3), 9);
        check.same("the last stays the last", x.waiting(4, 8, 0), 1);
        check.same("a load more", x.load(4, 1), -3);
    }

    private static void removeArmOnItsWay(Check check) {
        check.about("promise 3, removeArm of one on its way");
        LentArms x = new LentArms();
        x.addArm(0, false);
        x.addArm(1, false);
        Calls.loads(x, 2, 5, 5);
        x.send(0, 2);
        check.same("it counts as if it had taken one", x.reason(1, 2), 4);
        check.same("quay(2, 2)", x.quay(2, 2), 1);
        check.same("removeArm(0)", x.removeArm(0), 1);
        check.same("quay(2, 2)", x.quay(2, 2), 0);
        check.same("quay(2, 3)", x.quay(2, 3), 2);
        check.same("it counts no more", x.reason(0, 2), 0);
        check.same("the way stays told", x.way(0, 2), 2);
        check.same("ways so far", x.count(9), 1);
    }

    private static void tie(Check check) {
        check.about("promise 4, tie");
        LentArms x = new LentArms();
        check.same("tie(0, true)", x.tie(0, true), -1);
        x.addArm(0, false);
        x.addArm(1, true);
        for (int arm : Calls.FAR_OFF) {
            check.same("tie(" + arm + ", true)", x.tie(arm, true), -1);
        }
        check.same("tie(0, false)", x.tie(0, false), -5);
        check.same("tie(1, true)", x.tie(1, true), -5);
        check.same("neither is recorded", x.count(20), 2);
        check.same("tie(0, true)", x.tie(0, true), 2);
        check.same("arm(0, 4)", x.arm(0, 4), 1);
        check.same("tie(1, false)", x.tie(1, false), 1);
        check.same("arm(1, 4)", x.arm(1, 4), 0);
        check.same("tie(0, false)", x.tie(0, false), 0);
        check.same("undo()", x.undo(), 3);
        check.same("it was an act", x.arm(0, 4), 1);
        check.same("a tied one can be sent by a call", x.send(0, 3), 2);
        check.same("one on its way", x.tie(0, false), 0);
        check.same("it goes on", x.arm(0, 3), 2);
    }

    private static void moveHome(Check check) {
        check.about("promise 5, moveHome");
        LentArms x = new LentArms();
        check.same("moveHome(0, 0)", x.moveHome(0, 0), -1);
        x.addArm(3, false);
        for (int far : Calls.FAR_OFF) {
            check.same("moveHome(" + far + ", 3)", x.moveHome(far, 3), -1);
            check.same("moveHome(0, " + far + ")", x.moveHome(0, far), -1);
        }
        check.same("moveHome(0, 12)", x.moveHome(0, 12), -1);
        check.same("moveHome(0, 3)", x.moveHome(0, 3), -5);
        check.same("none is recorded", x.count(20), 1);
        check.same("moveHome(0, 11)", x.moveHome(0, 11), 3);
        check.same("arm(0, 0)", x.arm(0, 0), 11);
        check.same("it stays where it is", x.arm(0, 1), 3);
        check.same("moveHome(0, 0)", x.moveHome(0, 0), 11);
        check.same("it is away", x.count(19), 1);
        check.same("undo()", x.undo(), 2);
        check.same("it was an act", x.arm(0, 0), 11);
    }

    private static void send(Check check) {
        check.about("promise 6, send");
        LentArms x = new LentArms();
        check.same("send(0, 0)", x.send(0, 0), -1);
        x.addArm(3, true);
        for (int far : Calls.FAR_OFF) {
            check.same("send(" + far + ", 3)", x.send(far, 3), -1);
            check.same("send(0, " + far + ")", x.send(0, far), -1);
        }
        check.same("send(1, 3)", x.send(1, 3), -1);
        check.same("send(0, 12)", x.send(0, 12), -1);
        check.same("send(0, 3)", x.send(0, 3), -5);
        check.same("none is recorded", x.count(20), 1);
        check.same("within the basin", x.send(0, 0), 2);
        check.same("arm(0, 1)", x.arm(0, 1), 0);
        check.same("arm(0, 2)", x.arm(0, 2), 2);
        check.same("arm(0, 3)", x.arm(0, 3), 2);
        check.same("arm(0, 6)", x.arm(0, 6), 1);
        check.same("not idle before there", x.send(0, 0), -4);
        check.same("UNKNOWN before not idle", x.send(0, 12), -1);
        check.same("count(20)", x.count(20), 2);
        check.same("undo()", x.undo(), 1);
        check.same("it was an act", x.arm(0, 1), 3);
        check.same("over the port", x.send(0, 4), 6);
        x.run(5);
        check.same("a tick before", x.arm(0, 2), 2);
        x.run(1);
        check.same("there", x.arm(0, 2), 0);
        check.same("there", x.arm(0, 1), 4);
        x.set(0, 20);
        x.set(1, 50);
        check.same("within the basin", x.send(0, 7), 20);
        x.undo();
        check.same("over the port", x.send(0, 8), 50);
        x.undo();
        x.load(4, 3);
        x.run(1);
        check.same("one that works", x.send(0, 5), -4);
        check.same("one that works, there", x.send(0, 4), -4);
    }

    private ArmsTest() {
    }
}
