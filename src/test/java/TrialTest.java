import java.util.Arrays;

/** Promises 21 and 22: what some ticks would bring, and the best home of one arm more. */
final class TrialTest {
    static void test(Check check) {
        ifRun(check);
        ifRunIsRun(check);
        bestHome(check);
        bestHomeIsAdded(check);
        bestHomeOfFullHarbour(check);
    }

    private static void ifRun(Check check) {
        check.about("promise 21, ifRun");
        LentArms x = new LentArms();
        for (int far : Calls.FAR_OFF) {
            check.same("ifRun(" + far + ", 0)", x.ifRun(far, 0), -2);
            check.same("ifRun(1, " + far + ")", x.ifRun(1, far), -2);
        }
        check.same("ifRun(0, 0)", x.ifRun(0, 0), -2);
        check.same("ifRun(201, 0)", x.ifRun(201, 0), -2);
        check.same("ifRun(1, 4)", x.ifRun(1, 4), -2);
        x.addArm(0, false);
        Calls.loads(x, 0, 3, 3);
        Calls.loads(x, 8, 5, 5);
        x.run(1);
        check.same("ifRun(3, 0)", x.ifRun(3, 0), 1);
        check.same("ifRun(3, 1)", x.ifRun(3, 1), 2);
        check.same("ifRun(3, 2)", x.ifRun(3, 2), 3 + 3 + 2);
        check.same("ifRun(6, 0)", x.ifRun(6, 0), 2);
        check.same("ifRun(6, 3)", x.ifRun(6, 3), 0);
        check.same("the look over the port", x.ifRun(7, 3), 1);
        check.same("ifRun(200, 0)", x.ifRun(200, 0), 4);
        check.same("ifRun(200, 1)", x.ifRun(200, 1), 0);
        check.same("no tick passed", x.count(0), 1);
        check.same("it is no act", x.count(20), 4);
    }

    private static void ifRunIsRun(Check check) {
        check.about("promise 21, ifRun and run");
        for (int ticks = 1; ticks <= 200; ticks += 7) {
            LentArms x = mixed();
            int[] told = Calls.told(x);
            int[] due = new int[4];
            for (int what = 0; what < 4; what++) {
                due[what] = x.ifRun(ticks, what);
            }
            check.holds("it changes nothing", Arrays.equals(told, Calls.told(x)));
            int waited = x.count(8);
            int ways = x.count(9);
            check.same("loads done", x.run(ticks), due[0]);
            check.same("loads that wait", x.count(5), due[1]);
            check.same("ticks that they wait", x.count(8) - waited, due[2]);
            check.same("ways", x.count(9) - ways, due[3]);
        }
    }

    private static LentArms mixed() {
        LentArms x = new LentArms();
        x.addArm(0, false);
        x.addArm(5, false);
        x.addArm(6, true);
        Calls.text(x, "1:4x6;6:9x5;10:30x3;2:8");
        x.loadAll();
        x.set(4, 5);
        x.run(11);
        x.send(2, 10);
        return x;
    }

    private static void bestHome(Check check) {
        check.about("promise 22, bestHome");
        LentArms x = new LentArms();
        for (int far : Calls.FAR_OFF) {
            check.same("bestHome(" + far + ")", x.bestHome(far), -2);
        }
        check.same("bestHome(0)", x.bestHome(0), -2);
        check.same("bestHome(61)", x.bestHome(61), -2);
        check.same("the lowest of all", x.bestHome(60), 0);
        Calls.loads(x, 9, 5);
        check.same("bestHome(1)", x.bestHome(1), 9);
        Calls.loads(x, 7, 5);
        check.same("the lowest of two", x.bestHome(60), 7);
        Calls.loads(x, 9, 1);
        check.same("the same in few ticks", x.bestHome(5), 7);
        check.same("more in many ticks", x.bestHome(60), 9);
        check.same("none came", x.count(1), 0);
        check.same("it is no act", x.count(20), 3);
        x.load(3, 99);
        x.load(3, 1);
        x.run(1);
        x.addArm(3, true);
        check.same("one tick, any quay with loads", x.bestHome(1), 3);
        x.run(1);
        check.same("a tied one is not lent", x.bestHome(60), 9);
    }

    /** The arm more is as one that is added: tied, at home, with the highest number. */
    private static void bestHomeIsAdded(Check check) {
        check.about("promise 22, bestHome and addArm");
        for (int ticks = 1; ticks <= 60; ticks += 3) {
            LentArms x = mixed();
            int best = -1;
            int fewest = Integer.MAX_VALUE;
            for (int quay = 0; quay < 12; quay++) {
                x.addArm(quay, true);
                int waited = x.ifRun(ticks, 2);
                x.undo();
                if (waited < fewest) {
                    fewest = waited;
                    best = quay;
                }
            }
            int[] told = Calls.told(x);
            check.same("bestHome(" + ticks + ")", x.bestHome(ticks), best);
            check.holds("it changes nothing", Arrays.equals(told, Calls.told(x)));
        }
    }

    private static void bestHomeOfFullHarbour(Check check) {
        check.about("promise 22, bestHome with 16 arms");
        LentArms x = new LentArms();
        Calls.arms(x, 0, true, 16);
        Calls.loads(x, 11, 5, 5);
        check.same("bestHome(60)", x.bestHome(60), 11);
        check.same("count(1)", x.count(1), 16);
        check.same("addArm(0, true)", x.addArm(0, true), -3);
        check.same("arm(16, 0)", x.arm(16, 0), -1);
        x.removeArm(2);
        check.same("bestHome(60)", x.bestHome(60), 11);
        check.same("addArm(11, true)", x.addArm(11, true), 15);
        check.same("run(20)", x.run(20), 2);
    }

    private TrialTest() {
    }
}
