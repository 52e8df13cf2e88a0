/** Promises 16 to 20 and 23: what is told. */
final class TellTest {
    static void test(Check check) {
        arm(check);
        idleTicks(check);
        quay(check);
        waiting(check);
        reason(check);
        reasonOfPlaces(check);
        way(check);
        count(check);
    }

    private static void arm(Check check) {
        check.about("promise 16, arm");
        LentArms x = new LentArms();
        check.same("arm(0, 0)", x.arm(0, 0), -1);
        x.addArm(0, true);
        x.load(1, 4);
        for (int far : Calls.FAR_OFF) {
            check.same("arm(" + far + ", 0)", x.arm(far, 0), -1);
            check.same("arm(0, " + far + ")", x.arm(0, far), -2);
            check.same("UNKNOWN before BAD_VALUE", x.arm(1, far), -1);
        }
        check.same("arm(0, 8)", x.arm(0, 8), -2);
        all(check, x, 0, 0, 0, 0, 1, 0, 0, 0);
        x.send(0, 1);
        all(check, x, 0, 1, 2, 2, 1, 0, 1, 0);
        x.run(1);
        all(check, x, 0, 1, 2, 1, 1, 0, 1, 0);
        x.run(1);
        all(check, x, 0, 1, 1, 4, 1, 0, 1, 0);
        x.run(3);
        all(check, x, 0, 1, 1, 1, 1, 0, 1, 0);
        x.run(1);
        all(check, x, 0, 1, 0, 0, 1, 1, 1, 1);
        x.run(6);
        all(check, x, 0, 1, 0, 0, 1, 1, 1, 7);
        x.tie(0, false);
        x.send(0, 11);
        all(check, x, 0, 11, 2, 6, 0, 1, 2, 0);
        check.same("telling is no act", x.count(20), 4);
    }

    private static void all(Check check, LentArms x, int... due) {
        for (int what = 0; what < due.length; what++) {
            check.same("at " + x.count(0) + ": arm(0, " + what + ")", x.arm(0, what), due[what]);
        }
    }

    private static void idleTicks(Check check) {
        check.about("promise 16, idle ticks");
        LentArms x = new LentArms();
        x.addArm(0, false);
        x.run(5);
        check.same("0 at home", x.arm(0, 7), 0);
        x.moveHome(0, 1);
        check.same("ticks at home do not count", x.arm(0, 7), 0);
        x.run(3);
        check.same("they count away from home", x.arm(0, 7), 3);
        x.moveHome(0, 7);
        check.same("still away", x.arm(0, 7), 3);
        x.moveHome(0, 0);
        check.same("0 at home", x.arm(0, 7), 0);
        x.undo();
        x.load(0, 2);
        x.run(1);
        check.same("0 for one that works", x.arm(0, 7), 0);
        x.run(2);
        check.same("it counts anew", x.arm(0, 7), 1);
        x.set(0, 1);
        x.send(0, 1);
        check.same("0 for one on its way", x.arm(0, 7), 0);
        x.run(1);
        check.same("it counts anew", x.arm(0, 7), 1);
    }

    private static void quay(Check check) {
        check.about("promise 17, quay");
        LentArms x = new LentArms();
        for (int far : Calls.FAR_OFF) {
            check.same("quay(" + far + ", 0)", x.quay(far, 0), -1);
            check.same("quay(0, " + far + ")", x.quay(0, far), -2);
            check.same("UNKNOWN before BAD_VALUE", x.quay(12, far), -1);
        }
        check.same("quay(12, 0)", x.quay(12, 0), -1);
        check.same("quay(11, 7)", x.quay(11, 7), -2);
        Calls.arms(x, 5, true, 3);
        x.addArm(6, true);
        Calls.loads(x, 5, 3, 2);
        allOfQuay(check, x, 5, 3, 3, 0, 2, 5, 0, 0);
        x.run(1);
        allOfQuay(check, x, 5, 3, 1, 0, 0, 0, 0, -5);
        x.send(3, 5);
        allOfQuay(check, x, 5, 3, 1, 1, 0, 0, 0, -5);
        allOfQuay(check, x, 6, 0, 0, 0, 0, 0, 0, -5);
        Calls.loads(x, 5, 9, 8, 7, 6, 5);
        x.run(2);
        allOfQuay(check, x, 5, 4, 0, 0, 2, 11, 1, 2);
        Calls.loads(x, 5, 4);
        x.run(1);
        allOfQuay(check, x, 5, 4, 0, 0, 2, 9, 2, 3);
        check.same("other quays", x.quay(6, 5), 0);
    }

    private static void allOfQuay(Check check, LentArms x, int quay, int... due) {
        for (int what = 0; what < due.length; what++) {
            check.same("at " + x.count(0) + ": quay(" + quay + ", " + what + ")", x.quay(quay, what), due[what]);
        }
    }

    private static void waiting(Check check) {
        check.about("promise 18, waiting");
        LentArms x = new LentArms();
        Calls.loads(x, 8, 12, 13);
        x.run(3);
        Calls.loads(x, 8, 14);
        x.run(2);
        int[] works = {12, 13, 14};
        int[] waited = {5, 5, 2};
        for (int place = 0; place < 3; place++) {
            check.same("work at " + place, x.waiting(8, place, 0), works[place]);
            check.same("waited at " + place, x.waiting(8, place, 1), waited[place]);
        }
        check.same("no such place", x.waiting(8, 3, 0), -1);
        check.same("no such quay", x.waiting(12, 0, 0), -1);
        check.same("BAD_VALUE", x.waiting(8, 0, 2), -2);
        for (int far : Calls.FAR_OFF) {
            check.same("waiting(" + far + ", 0, 0)", x.waiting(far, 0, 0), -1);
            check.same("waiting(8, " + far + ", 0)", x.waiting(8, far, 0), -1);
            check.same("waiting(8, 0, " + far + ")", x.waiting(8, 0, far), -2);
            check.same("UNKNOWN before BAD_VALUE", x.waiting(8, 3, far), -1);
        }
        x.addArm(8, true);
        x.run(1);
        check.same("those behind move up", x.waiting(8, 0, 0), 13);
        check.same("and waited on", x.waiting(8, 0, 1), 6);
        check.same("the one taken waits no more", x.quay(8, 3), 2);
    }

    private static void reason(Check check) {
        check.about("promise 19, reason");
        LentArms x = new LentArms();
        check.same("reason(0, 0)", x.reason(0, 0), -1);
        x.addArm(0, true);
        for (int far : Calls.FAR_OFF) {
            check.same("reason(" + far + ", 0)", x.reason(far, 0), -1);
            check.same("reason(0, " + far + ")", x.reason(0, far), -1);
        }
        check.same("reason(0, 12)", x.reason(0, 12), -1);
        check.same("it is there, before tied", x.reason(0, 0), 2);
        check.same("tied, before too few", x.reason(0, 1), 3);
        x.tie(0, false);
        check.same("none waits", x.reason(0, 1), 4);
        x.load(1, 5);
        check.same("one waits", x.reason(0, 1), 4);
        x.load(1, 5);
        check.same("two wait", x.reason(0, 1), 0);
        x.addArm(2, true);
        x.send(1, 1);
        check.same("one that comes counts as if it had taken one", x.reason(0, 1), 4);
        check.same("one on its way, there", x.reason(1, 1), 1);
        check.same("one on its way, tied", x.reason(1, 5), 1);
        x.load(1, 5);
        check.same("two are left", x.reason(0, 1), 0);
        x.load(0, 9);
        x.run(1);
        check.same("one that works", x.reason(0, 1), 1);
        check.same("one that works, there", x.reason(0, 0), 1);
        check.same("telling is no act", x.count(20), 4);
    }

    private static void reasonOfPlaces(Check check) {
        check.about("promise 19, other quays");
        LentArms x = new LentArms();
        x.addArm(5, false);
        Calls.loadTimes(x, 4, 1, 3);
        Calls.loadTimes(x, 6, 1, 3);
        Calls.loadTimes(x, 7, 1, 2);
        check.same("the lowest of several", x.reason(0, 4), 0);
        check.same("as many and a lower number", x.reason(0, 6), 5);
        check.same("fewer", x.reason(0, 7), 5);
        Calls.loadTimes(x, 5, 1, 9);
        check.same("it can't be sent to its own quay", x.reason(0, 4), 0);
        Calls.loadTimes(x, 9, 1, 4);
        check.same("more in another basin do not matter", x.reason(0, 4), 0);
        check.same("nor those of its basin for another", x.reason(0, 9), 0);
        Calls.loadTimes(x, 2, 1, 4);
        check.same("all other basins matter together", x.reason(0, 9), 5);
        check.same("the lowest of them", x.reason(0, 2), 0);
        Calls.loadTimes(x, 11, 1, 5);
        check.same("one with more", x.reason(0, 2), 5);
        check.same("the one with most", x.reason(0, 11), 0);
        x.addArm(10, false);
        x.send(1, 11);
        check.same("loads are counted as for a look", x.reason(0, 11), 5);
        check.same("loads are counted as for a look", x.reason(0, 2), 0);
        check.same("too few comes first", x.reason(0, 1), 4);
    }

    private static void way(Check check) {
        check.about("promise 20, way");
        LentArms x = new LentArms();
        check.same("way(0, 0)", x.way(0, 0), -5);
        for (int far : Calls.FAR_OFF) {
            check.same("what", x.way(0, far), -2);
            check.same("back", x.way(far, 0), far < 0 ? -2 : -5);
        }
        check.same("way(0, 5)", x.way(0, 5), -2);
        x.addArm(0, false);
        x.addArm(1, false);
        x.run(3);
        x.send(1, 2);
        allOfWay(check, x, 0, 1, 1, 2, 3, 0);
        x.removeArm(0);
        allOfWay(check, x, 0, 1, 1, 2, 3, 0);
        x.run(6);
        for (int i = 0; i < 19; i++) {
            x.send(0, 5 - i % 2);
            x.run(6);
        }
        check.same("count(9)", x.count(9), 20);
        allOfWay(check, x, 0, 0, 4, 5, 117, 0);
        allOfWay(check, x, 1, 0, 5, 4, 111, 0);
        allOfWay(check, x, 15, 0, 5, 4, 27, 0);
        check.same("only the latest 16", x.way(16, 0), -5);
        check.same("BAD_VALUE before NONE", x.way(16, 5), -2);
        x.undo();
        x.undo();
        allOfWay(check, x, 0, 0, 5, 4, 111, 0);
        allOfWay(check, x, 15, 0, 4, 5, 21, 0);
        check.same("undone", x.count(9), 19);
    }

    private static void allOfWay(Check check, LentArms x, int back, int... due) {
        for (int what = 0; what < due.length; what++) {
            check.same("way(" + back + ", " + what + ")", x.way(back, what), due[what]);
        }
    }

    private static void count(Check check) {
        check.about("promise 23, count");
        LentArms x = new LentArms();
        for (int far : Calls.FAR_OFF) {
            check.same("count(" + far + ")", x.count(far), -2);
        }
        check.same("count(22)", x.count(22), -2);
        x.addArm(0, true);
        x.addArm(1, true);
        x.addArm(2, true);
        Calls.loads(x, 0, 4, 3, 2);
        x.send(1, 4);
        x.run(2);
        Calls.text(x, "0:1");
        int[] due = {2, 3, 1, 1, 1, 2, 0, 1, 4, 1, 4, 8, 6, 8, 2, 6, 2, 8, 0, 1, 4, 3};
        for (int what = 0; what < due.length; what++) {
            check.same("count(" + what + ")", x.count(what), due[what]);
        }
        x.run(5);
        check.same("loads done", x.count(6), 1);
        check.same("work done", x.count(7), 6);
        check.same("ticks waited", x.count(8), 4 + 2 * 2 + 3);
        x.removeArm(0);
        check.same("work done stays", x.count(7), 6);
        check.same("loads done stay", x.count(6), 1);
        check.same("one is away", x.count(19), 1);
        x.send(0, 1);
        check.same("on its way home it is not away", x.count(19), 0);
        x.send(1, 3);
        check.same("on its way to another quay it is", x.count(19), 1);
    }

    private TellTest() {
    }
}
