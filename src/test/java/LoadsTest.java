/** Promises 7, 9 and 10: loads, ticks that pass, settings. */
final class LoadsTest {
    static void test(Check check) {
        load(check);
        run(check);
        lastClock(check);
        set(check);
        changedLooks(check);
    }

    private static void load(Check check) {
        check.about("promise 7, load");
        LentArms x = new LentArms();
        for (int far : Calls.FAR_OFF) {
            check.same("load(" + far + ", 5)", x.load(far, 5), -1);
            check.same("load(0, " + far + ")", x.load(0, far), -2);
            check.same("UNKNOWN before BAD_VALUE", x.load(12, far), -1);
        }
        check.same("load(12, 5)", x.load(12, 5), -1);
        check.same("load(11, 0)", x.load(11, 0), -2);
        check.same("load(11, 100)", x.load(11, 100), -2);
        check.same("none is recorded", x.count(20), 0);
        check.same("load(11, 1)", x.load(11, 1), 1);
        check.same("load(11, 99)", x.load(11, 99), 2);
        check.same("load(0, 7)", x.load(0, 7), 1);
        check.same("behind the others", x.waiting(11, 1, 0), 99);
        check.same("waiting(11, 0, 0)", x.waiting(11, 0, 0), 1);
        check.same("it waits from 0 on", x.waiting(11, 1, 1), 0);
        check.same("count(5)", x.count(5), 3);
        check.same("undo()", x.undo(), 2);
        check.same("it was an act", x.quay(0, 3), 0);
        for (int waits = 3; waits <= 9; waits++) {
            check.same("load(11, 2)", x.load(11, 2), waits);
        }
        check.same("a tenth", x.load(11, 2), -3);
        check.same("BAD_VALUE before FULL", x.load(11, 0), -2);
        check.same("elsewhere is room", x.load(10, 2), 1);
    }

    private static void run(Check check) {
        check.about("promise 9, run");
        LentArms x = new LentArms();
        for (int far : Calls.FAR_OFF) {
            check.same("run(" + far + ")", x.run(far), -2);
        }
        check.same("run(0)", x.run(0), -2);
        check.same("run(201)", x.run(201), -2);
        check.same("none is recorded", x.count(20), 0);
        x.addArm(0, true);
        x.addArm(4, true);
        Calls.loads(x, 0, 3, 2, 9);
        Calls.loads(x, 4, 1);
        check.same("run(1)", x.run(1), 0);
        check.same("run(5)", x.run(5), 3);
        check.same("count(0)", x.count(0), 6);
        check.same("count(6)", x.count(6), 3);
        check.same("run(200)", x.run(200), 1);
        check.same("count(0)", x.count(0), 206);
        check.same("count(7)", x.count(7), 15);
        check.same("undo()", x.undo(), 3);
        check.same("it is one act", x.count(0), 6);
    }

    private static void lastClock(Check check) {
        check.about("promise 9, the last clock");
        LentArms x = new LentArms();
        for (int i = 0; i < 499; i++) {
            x.run(200);
        }
        check.same("count(0)", x.count(0), 99800);
        check.same("run(200)", x.run(200), -3);
        check.same("BAD_VALUE before FULL", x.run(201), -2);
        check.same("it stays", x.count(0), 99800);
        check.same("for ifRun the clock does not matter", x.ifRun(200, 0), 0);
        check.same("run(198)", x.run(198), 0);
        check.same("ifRun(200, 3)", x.ifRun(200, 3), 0);
        check.same("bestHome(60)", x.bestHome(60), 0);
        check.same("run(2)", x.run(2), -3);
        check.same("run(1)", x.run(1), 0);
        check.same("count(0)", x.count(0), 99999);
        check.same("run(1)", x.run(1), -3);
    }

    private static void set(Check check) {
        check.about("promise 10, set");
        LentArms x = new LentArms();
        int[] lowest = {1, 1, 1, 1, 0};
        int[] highest = {20, 50, 64, 64, 99};
        int[] first = {2, 6, 2, 8, 0};
        for (int which = 0; which < 5; which++) {
            check.same("the first value", x.count(14 + which), first[which]);
            check.same("NONE", x.set(which, first[which]), -5);
            check.same("too low", x.set(which, lowest[which] - 1), -2);
            check.same("too high", x.set(which, highest[which] + 1), -2);
            check.same("far too low", x.set(which, Integer.MIN_VALUE), -2);
            check.same("far too high", x.set(which, Integer.MAX_VALUE), -2);
            check.same("none is recorded", x.count(20), Math.min(which * 2, 4));
            check.same("the highest", x.set(which, highest[which]), first[which]);
            check.same("told", x.count(14 + which), highest[which]);
            check.same("the lowest", x.set(which, lowest[which]), highest[which]);
            check.same("told", x.count(14 + which), lowest[which]);
            check.same("NONE", x.set(which, lowest[which]), -5);
        }
        for (int far : Calls.FAR_OFF) {
            check.same("set(" + far + ", 5)", x.set(far, 5), -1);
            check.same("UNKNOWN before BAD_VALUE", x.set(far, far), -1);
        }
        check.same("set(5, 5)", x.set(5, 5), -1);
        x.undo();
        check.same("it is an act", x.count(18), 99);
    }

    private static void changedLooks(Check check) {
        check.about("promise 10, the distances of looks");
        LentArms x = new LentArms();
        x.run(7);
        check.same("count(10)", x.count(10), 8);
        check.same("count(12)", x.count(12), 14);
        x.set(0, 9);
        x.set(1, 9);
        x.set(4, 9);
        check.same("other settings change no look", x.count(12), 14);
        check.same("count(13)", x.count(13), 8);
        x.set(2, 5);
        check.same("count(10)", x.count(10), 5);
        check.same("count(12)", x.count(12), 12);
        check.same("the other level stays", x.count(11), 8);
        check.same("the other level stays", x.count(13), 8);
        check.same("NONE changes no look", x.set(3, 8), -5);
        check.same("count(13)", x.count(13), 8);
        x.set(3, 1);
        check.same("count(11)", x.count(11), 1);
        check.same("count(13)", x.count(13), 8);
        x.set(3, 64);
        check.same("count(11)", x.count(11), 64);
        check.same("count(13)", x.count(13), 71);
        check.same("count(10)", x.count(10), 5);
        x.undo();
        check.same("undone with the setting", x.count(13), 8);
    }

    private LoadsTest() {
    }
}
