/** What happens in a tick: works, looks, ways home. */
final class TicksTest {
    static void test(Check check) {
        order(check);
        numbersFirst(check);
        looksGrowRarer(check);
        looksThatSend(check);
        lookInBasin(check);
        lookCountsThoseOnTheWay(check);
        lookOverPort(check);
        lookOverPortEnds(check);
        bothLooks(check);
        goHome(check);
        goHomeAtOnce(check);
        countAnew(check);
    }

    private static void order(Check check) {
        check.about("a tick, order");
        LentArms x = new LentArms();
        x.addArm(0, true);
        Calls.loads(x, 0, 2, 1);
        x.run(1);
        check.same("a load that is taken has all its work", x.arm(0, 3), 2);
        x.run(1);
        check.same("a unit a tick", x.arm(0, 3), 1);
        check.same("one is done", x.run(1), 1);
        check.same("the next is taken in the same tick", x.arm(0, 2), 1);
        check.same("the next is taken in the same tick", x.arm(0, 3), 1);
        check.same("one is done", x.run(1), 1);
        check.same("idle", x.arm(0, 2), 0);
        check.same("ticks waited at the end of each", x.count(8), 2);
        x.load(1, 7);
        x.send(0, 1);
        x.run(2);
        check.same("one that comes takes a load in the same tick", x.arm(0, 3), 7);
    }

    private static void numbersFirst(Check check) {
        check.about("a tick, numbers");
        LentArms x = new LentArms();
        Calls.arms(x, 3, true, 3);
        Calls.loads(x, 3, 8, 5);
        x.run(1);
        check.same("the first load", x.arm(0, 3), 8);
        check.same("the second load", x.arm(1, 3), 5);
        check.same("no third load", x.arm(2, 2), 0);
        Calls.loads(x, 3, 9);
        x.run(1);
        check.same("the idle one", x.arm(2, 3), 9);
        check.same("two are done in one tick", x.ifRun(7, 0), 2);
    }

    private static void looksGrowRarer(Check check) {
        check.about("looks, rarer");
        LentArms x = new LentArms();
        x.set(3, 3);
        int next = 2;
        int distance = 2;
        int portNext = 3;
        int portDistance = 3;
        for (int clock = 1; clock <= 300; clock++) {
            x.run(1);
            if (clock == next) {
                distance = Math.min(64, distance * 2);
                next += distance;
            }
            if (clock == portNext) {
                portDistance = Math.min(64, portDistance * 2);
                portNext += portDistance;
            }
            check.same("count(10) at " + clock, x.count(10), distance);
            check.same("count(11) at " + clock, x.count(11), portDistance);
            check.same("count(12) at " + clock, x.count(12), next);
            check.same("count(13) at " + clock, x.count(13), portNext);
        }
        check.same("at most", x.count(10), 64);
        check.same("at most", x.count(11), 64);
    }

    private static void looksThatSend(Check check) {
        check.about("looks, the setting again");
        LentArms x = new LentArms();
        x.addArm(0, false);
        x.run(10);
        check.same("count(10)", x.count(10), 8);
        check.same("count(11)", x.count(11), 16);
        Calls.loads(x, 1, 99);
        x.run(4);
        check.same("one load is none for a look", x.count(10), 16);
        check.same("count(12)", x.count(12), 30);
        Calls.loads(x, 1, 99);
        x.run(15);
        check.same("not before the look", x.arm(0, 2), 0);
        x.run(1);
        check.same("sent", x.arm(0, 2), 2);
        check.same("the setting again", x.count(10), 2);
        check.same("count(12)", x.count(12), 32);
        check.same("the other level looked in between", x.count(11), 32);
        check.same("count(13)", x.count(13), 56);
    }

    private static void lookInBasin(Check check) {
        check.about("looks, within a basin");
        LentArms x = new LentArms();
        x.set(2, 1);
        x.addArm(7, true);
        Calls.arms(x, 7, false, 4);
        x.addArm(0, false);
        Calls.loadTimes(x, 5, 9, 3);
        Calls.loadTimes(x, 6, 9, 4);
        x.run(1);
        way(check, x, 3, 1, 7, 6, 1, 1);
        way(check, x, 2, 2, 7, 5, 1, 1);
        way(check, x, 1, 3, 7, 6, 1, 1);
        way(check, x, 0, 4, 7, 5, 1, 1);
        check.same("count(9)", x.count(9), 4);
        check.same("a tied one stays", x.arm(0, 1), 7);
        check.same("one of another basin stays", x.arm(5, 1), 0);
        check.same("the way takes the setting 0", x.arm(1, 3), 2);
        x.run(1);
        check.same("it finds nothing more", x.count(10), 2);
        x.run(1);
        check.same("two came in time", x.quay(6, 0), 2);
        check.same("loads were taken", x.quay(6, 3), 2);
    }

    private static void way(Check check, LentArms x, int back, int... due) {
        for (int what = 0; what < due.length; what++) {
            check.same("way(" + back + ", " + what + ")", x.way(back, what), due[what]);
        }
    }

    private static void lookCountsThoseOnTheWay(Check check) {
        check.about("looks, arms on their way");
        LentArms x = new LentArms();
        x.set(2, 1);
        x.set(0, 9);
        x.addArm(0, true);
        x.addArm(1, false);
        Calls.loadTimes(x, 3, 5, 2);
        x.send(0, 3);
        x.run(1);
        check.same("one that comes has as if taken one", x.count(9), 1);
        x.load(3, 5);
        Calls.loadTimes(x, 2, 5, 2);
        x.run(2);
        way(check, x, 0, 1, 1, 2, 3, 1);
        LentArms y = new LentArms();
        y.set(2, 1);
        y.addArm(1, false);
        y.addArm(1, false);
        Calls.loadTimes(y, 0, 5, 3);
        y.run(1);
        check.same("both are sent", y.quay(0, 2), 2);
        check.same("the lowest first", y.way(1, 0), 0);
        LentArms z = new LentArms();
        z.set(2, 1);
        Calls.arms(z, 1, false, 3);
        Calls.loadTimes(z, 0, 5, 3);
        z.run(1);
        check.same("the third is not", z.quay(0, 2), 2);
    }

    private static void lookOverPort(Check check) {
        check.about("looks, over the port");
        LentArms x = new LentArms();
        x.addArm(4, true);
        x.addArm(4, false);
        x.addArm(9, false);
        Calls.loadTimes(x, 1, 20, 4);
        x.run(7);
        check.same("not before the look", x.count(9), 0);
        x.run(1);
        way(check, x, 1, 1, 4, 1, 8, 2);
        way(check, x, 0, 2, 9, 1, 8, 2);
        check.same("the way takes the setting 1", x.arm(1, 3), 6);
        check.same("a tied one stays", x.arm(0, 2), 0);
        check.same("the setting again", x.count(11), 8);
        check.same("count(13)", x.count(13), 16);
        check.same("the other level is for itself", x.count(10), 8);
        check.same("count(12)", x.count(12), 14);
        x.run(6);
        check.same("both work", x.quay(1, 0), 2);
    }

    private static void lookOverPortEnds(Check check) {
        check.about("looks, over the port, the end");
        LentArms x = new LentArms();
        x.set(2, 64);
        x.set(3, 1);
        x.addArm(0, false);
        Calls.loadTimes(x, 1, 20, 5);
        Calls.loadTimes(x, 4, 20, 5);
        x.run(1);
        check.same("none for the quay with most", x.count(9), 0);
        check.same("doubled", x.count(11), 2);
        x.run(1);
        x.load(4, 20);
        x.run(1);
        way(check, x, 0, 0, 0, 4, 3, 2);
        LentArms y = new LentArms();
        y.set(2, 64);
        y.set(3, 1);
        y.addArm(0, false);
        y.addArm(0, false);
        Calls.loadTimes(y, 1, 20, 5);
        Calls.loadTimes(y, 4, 20, 6);
        y.run(1);
        check.same("it ends when another quay has most", y.count(9), 1);
        check.same("it ends when another quay has most", y.arm(1, 2), 0);
    }

    private static void bothLooks(Check check) {
        check.about("looks, both in a tick");
        LentArms x = new LentArms();
        x.set(2, 4);
        x.set(3, 4);
        x.addArm(1, false);
        x.addArm(11, false);
        Calls.loadTimes(x, 0, 20, 2);
        x.run(4);
        check.same("within the basin first", x.way(0, 0), 0);
        check.same("then none needs help", x.count(9), 1);
        check.same("count(10)", x.count(10), 4);
        check.same("count(11)", x.count(11), 8);
    }

    private static void goHome(Check check) {
        check.about("ways home");
        LentArms x = new LentArms();
        x.set(4, 3);
        x.addArm(0, true);
        x.addArm(4, true);
        x.send(0, 1);
        x.send(1, 0);
        x.run(2);
        check.same("the tick in which it came counts", x.arm(0, 7), 1);
        x.run(1);
        check.same("arm(0, 7)", x.arm(0, 7), 2);
        check.same("arm(0, 2)", x.arm(0, 2), 0);
        x.run(1);
        way(check, x, 0, 0, 1, 0, 4, 3);
        check.same("arm(0, 3)", x.arm(0, 3), 2);
        check.same("arm(0, 6)", x.arm(0, 6), 2);
        check.same("arm(0, 7)", x.arm(0, 7), 0);
        x.run(2);
        check.same("at home", x.arm(0, 2), 0);
        check.same("at home", x.arm(0, 7), 0);
        x.run(2);
        way(check, x, 0, 1, 0, 4, 8, 3);
        check.same("over the port by the setting 1", x.arm(1, 3), 6);
        x.run(50);
        check.same("at home they stay", x.count(9), 4);
    }

    private static void goHomeAtOnce(Check check) {
        check.about("ways home, other settings");
        LentArms x = new LentArms();
        x.addArm(0, true);
        x.send(0, 3);
        x.run(60);
        check.same("none at the setting 0", x.arm(0, 1), 3);
        check.same("idle ticks count all the same", x.arm(0, 7), 59);
        x.set(4, 99);
        x.run(39);
        check.same("not yet", x.arm(0, 7), 98);
        x.set(4, 20);
        check.same("not before a tick", x.arm(0, 2), 0);
        x.run(1);
        check.same("more than told is enough", x.arm(0, 1), 0);
        x.run(10);
        x.set(4, 1);
        x.send(0, 5);
        x.run(6);
        check.same("after one idle tick", x.way(0, 4), 3);
        check.same("in the tick in which it came", x.way(0, 3), 116);
    }

    private static void countAnew(Check check) {
        check.about("ways home, counted anew");
        LentArms x = new LentArms();
        x.set(4, 3);
        x.set(0, 1);
        x.addArm(0, true);
        x.send(0, 1);
        x.run(2);
        check.same("arm(0, 7)", x.arm(0, 7), 2);
        x.load(1, 1);
        x.run(1);
        check.same("one that works", x.arm(0, 7), 0);
        x.run(1);
        check.same("it counts anew", x.arm(0, 7), 1);
        x.send(0, 2);
        x.run(1);
        check.same("a way of one tick", x.arm(0, 7), 1);
        x.run(1);
        check.same("arm(0, 7)", x.arm(0, 7), 2);
        check.same("arm(0, 2)", x.arm(0, 2), 0);
        x.run(1);
        check.same("home", x.way(0, 4), 3);
    }

    private TicksTest() {
    }
}
