import java.util.Random;

/** Long runs of calls on LentArms and on its twin; the seeds are fixed, so that each run is the same. */
final class TwinTest {
    private static final int RUNS = 600;
    private static final int CALLS = 512;
    private static final String SIGNS = "0123456789:;x:;x1";

    private final Random dice;
    private final Check check;
    private final LentArms x = new LentArms();
    private final Twin y = new Twin();
    /** How a run leans: few or many ticks at once, small or large loads, one basin or all. */
    private final int longest;
    private final int heaviest;
    private final int quays;
    private final int wild;

    static void test(Check check) {
        for (int seed = 0; seed < RUNS; seed++) {
            check.about("twin, run " + seed);
            int failedBefore = check.failed();
            TwinTest run = new TwinTest(check, seed);
            for (int i = 0; i < CALLS && check.failed() == failedBefore; i++) {
                run.call(i);
            }
        }
    }

    private TwinTest(Check check, int seed) {
        this.check = check;
        dice = new Random(seed);
        longest = new int[] {3, 12, 60, 200}[seed % 4];
        heaviest = new int[] {4, 20, 99}[seed / 4 % 3];
        quays = new int[] {2, 6, 12}[seed / 12 % 3];
        wild = new int[] {5, 60}[seed / 36 % 2];
    }

    private int upTo(int most) {
        return dice.nextInt(most + 1);
    }

    /** Mostly a number in a range, now and then one that is not. */
    private int number(int lowest, int highest) {
        if (dice.nextInt(wild) == 0) {
            int[] edges = {lowest - 1, highest + 1, Integer.MIN_VALUE, Integer.MAX_VALUE, highest, lowest, -1, 0};
            return edges[upTo(7)];
        }
        return lowest + upTo(highest - lowest);
    }

    private int someArm() {
        return number(0, Math.max(0, y.count(1) - 1));
    }

    private int someQuay() {
        return quays == 2 ? number(0, 1) + upTo(1) * 4 : number(0, quays - 1);
    }

    private void same(String call, int got, int due) {
        check.same(call, got, due);
    }

    private void call(int at) {
        int which = upTo(99);
        if (which < 45) {
            act(which, at);
        } else if (which < 52) {
            text();
        } else if (which < 56) {
            history();
        } else if (which < 70) {
            trials(which);
        } else {
            tell();
        }
    }

    private void act(int which, int at) {
        int arm = someArm();
        int quay = someQuay();
        boolean tied = upTo(3) == 0;
        if (which < 5 || at < 6) {
            same("addArm(" + quay + ", " + tied + ")", x.addArm(quay, tied), y.addArm(quay, tied));
        } else if (which < 8) {
            same("removeArm(" + arm + ")", x.removeArm(arm), y.removeArm(arm));
        } else if (which < 10) {
            same("tie(" + arm + ", " + tied + ")", x.tie(arm, tied), y.tie(arm, tied));
        } else if (which < 13) {
            same("moveHome(" + arm + ", " + quay + ")", x.moveHome(arm, quay), y.moveHome(arm, quay));
        } else if (which < 17) {
            same("send(" + arm + ", " + quay + ")", x.send(arm, quay), y.send(arm, quay));
        } else if (which < 27) {
            int work = number(1, heaviest);
            same("load(" + quay + ", " + work + ")", x.load(quay, work), y.load(quay, work));
        } else if (which < 31) {
            setting();
        } else {
            int ticks = number(1, longest);
            same("run(" + ticks + ")", x.run(ticks), y.run(ticks));
        }
    }

    private void setting() {
        int which = number(0, 4);
        int value = upTo(2) == 0 ? number(0, 99) : number(1, 8);
        same("set(" + which + ", " + value + ")", x.set(which, value), y.set(which, value));
    }

    private void text() {
        if (upTo(1) == 0) {
            same("clearText()", x.clearText(), y.clearText());
        }
        int loads = upTo(3);
        StringBuilder typed = new StringBuilder();
        for (int i = 0; i < loads; i++) {
            typed.append(i == 0 && upTo(3) > 0 ? "" : ";").append(upTo(quays - 1)).append(":");
            typed.append(1 + upTo(heaviest - 1)).append(upTo(2) == 0 ? "x" + (2 + upTo(7)) : "");
        }
        if (upTo(2) == 0) {
            int place = upTo(typed.length());
            typed.insert(place, SIGNS.charAt(upTo(SIGNS.length() - 1)));
        }
        for (int i = 0; i < typed.length(); i++) {
            char sign = typed.charAt(i);
            same("type('" + sign + "')", x.type(sign), y.type(sign));
        }
        same("loadAll() of " + typed, x.loadAll(), y.loadAll());
    }

    private void history() {
        int which = upTo(5);
        if (which < 3) {
            same("undo()", x.undo(), y.undo());
        } else if (which < 4) {
            same("keep()", x.keep(), y.keep());
        } else {
            same("restore()", x.restore(), y.restore());
        }
    }

    private void trials(int which) {
        int ticks = which < 58 ? number(1, 60) : number(1, longest);
        if (which < 58) {
            same("bestHome(" + ticks + ")", x.bestHome(ticks), y.bestHome(ticks));
        } else {
            int what = number(0, 3);
            same("ifRun(" + ticks + ", " + what + ")", x.ifRun(ticks, what), y.ifRun(ticks, what));
        }
    }

    private void tell() {
        int arm = someArm();
        int quay = someQuay();
        int place = number(0, 9);
        int back = number(0, 16);
        int of = number(0, 1);
        int fact = number(0, 4);
        for (int what = -1; what < 9; what++) {
            same("arm(" + arm + ", " + what + ")", x.arm(arm, what), y.arm(arm, what));
            same("quay(" + quay + ", " + what + ")", x.quay(quay, what), y.quay(quay, what));
        }
        for (int what = -1; what < 23; what++) {
            same("count(" + what + ")", x.count(what), y.count(what));
        }
        for (int other = -1; other < 13; other++) {
            same("reason(" + arm + ", " + other + ")", x.reason(arm, other), y.reason(arm, other));
        }
        same("waiting(" + quay + ", " + place + ", " + of + ")", x.waiting(quay, place, of), y.waiting(quay, place, of));
        same("way(" + back + ", " + fact + ")", x.way(back, fact), y.way(back, fact));
    }
}
