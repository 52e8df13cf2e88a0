import java.util.Arrays;

/** Promises 13 to 15: history. */
final class HistoryTest {
    static void test(Check check) {
        undo(check);
        everyAct(check);
        keep(check);
        restore(check);
    }

    private static void undo(Check check) {
        check.about("promise 13, undo");
        LentArms x = new LentArms();
        check.same("undo()", x.undo(), -5);
        for (int i = 1; i <= 6; i++) {
            x.load(0, i);
            check.same("count(20)", x.count(20), Math.min(i, 4));
        }
        check.same("undo()", x.undo(), 3);
        check.same("count(5)", x.count(5), 5);
        x.type('1');
        check.same("undo()", x.undo(), 2);
        check.same("the text is not undone", x.count(21), 1);
        check.same("undo()", x.undo(), 1);
        check.same("undo()", x.undo(), 0);
        check.same("the oldest ones are dropped", x.count(5), 2);
        check.same("undo()", x.undo(), -5);
        check.same("count(5)", x.count(5), 2);
        x.load(0, 9);
        x.undo();
        check.same("the line is whole", x.waiting(0, 1, 0), 2);
    }

    /** A busy harbour, so that each part of a state is other than at first. */
    private static LentArms busy() {
        LentArms x = new LentArms();
        x.addArm(0, false);
        x.addArm(4, false);
        x.addArm(9, true);
        x.addArm(9, false);
        x.addArm(11, true);
        x.set(4, 3);
        Calls.text(x, "0:5x9;1:3x4;9:2x3");
        x.loadAll();
        x.run(20);
        x.send(2, 3);
        return x;
    }

    private static void everyAct(Check check) {
        for (int act = 0; act < 10; act++) {
            check.about("promise 13, undo of act " + act);
            LentArms x = busy();
            int[] before = Calls.state(x);
            check.holds("no error", doAct(x, act) >= 0);
            check.holds("it changes the state", !Arrays.equals(before, Calls.state(x)));
            x.undo();
            check.holds("the state is as before", Arrays.equals(before, Calls.state(x)));
            LentArms other = busy();
            check.same("later runs are the same", x.run(50), other.run(50));
            check.holds("later states are the same", Arrays.equals(Calls.state(x), Calls.state(other)));
        }
    }

    private static int doAct(LentArms x, int act) {
        switch (act) {
            case 0: return x.addArm(3, true);
            case 1: return x.removeArm(1);
            case 2: return x.tie(0, true);
            case 3: return x.moveHome(1, 8);
            case 4: return x.send(4, 6);
            case 5: return x.load(7, 9);
            case 6: Calls.text(x, "11:9;10:7x2"); return x.loadAll();
            case 7: return x.run(200);
            case 8: return x.set(2, 7);
            default:
                x.keep();
                x.run(9);
                return x.restore() + x.undo() + x.count(20);
        }
    }

    private static void keep(Check check) {
        check.about("promise 14, keep");
        LentArms x = busy();
        int states = x.count(20);
        int[] kept = Calls.state(x);
        check.same("keep()", x.keep(), 20);
        check.same("it is no act", x.count(20), states);
        check.holds("it changes nothing", Arrays.equals(kept, Calls.state(x)));
        x.run(30);
        x.type('5');
        int length = x.count(21);
        check.same("restore()", x.restore(), 20);
        check.holds("all is as it was", Arrays.equals(kept, Calls.state(x)));
        check.same("but the text", x.count(21), length);
        x.run(5);
        check.same("keep()", x.keep(), 25);
        x.run(7);
        check.same("the one before is gone", x.restore(), 25);
        x.run(1);
        x.undo();
        x.undo();
        check.same("undo leaves the snapshot", x.restore(), 25);
    }

    private static void restore(Check check) {
        check.about("promise 15, restore");
        LentArms x = new LentArms();
        check.same("restore()", x.restore(), -5);
        check.same("not recorded", x.count(20), 0);
        x.keep();
        x.addArm(3, false);
        x.run(10);
        check.same("restore()", x.restore(), 0);
        check.same("count(1)", x.count(1), 0);
        check.same("it is an act", x.count(20), 3);
        check.same("restore() again", x.restore(), 0);
        check.same("count(20)", x.count(20), 4);
        check.same("undo()", x.undo(), 3);
        check.same("undo()", x.undo(), 2);
        check.same("before the restore", x.count(0), 10);
        check.same("before the restore", x.count(1), 1);
    }

    private HistoryTest() {
    }
}
