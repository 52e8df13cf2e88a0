import java.util.ArrayDeque;
import java.util.ArrayList;
import java.util.List;
import java.util.regex.Matcher;
import java.util.regex.Pattern;

/**
 * The document written down a second time, as slowly and literally as it goes: each step of a tick
 * for itself, each load counts its own ticks, each state is a copy. TwinTest holds it beside LentArms.
 */
final class Twin {
    private static final int[][] RANGES = {{1, 20}, {1, 50}, {1, 64}, {1, 64}, {0, 99}};
    private static final String LOAD = "(?:1[01]|[0-9]):[1-9][0-9]?(?:x[2-9])?";
    private static final Pattern LOADS = Pattern.compile(LOAD + "(?:;" + LOAD + ")*");

    private static final class Crane {
        int home;
        int quay;
        int doing;
        int left;
        boolean tied;
        int done;
        int ways;
        int idle;

        Crane copy() {
            Crane c = new Crane();
            c.home = home;
            c.quay = quay;
            c.doing = doing;
            c.left = left;
            c.tied = tied;
            c.done = done;
            c.ways = ways;
            c.idle = idle;
            return c;
        }
    }

    private static final class State {
        int clock;
        List<Crane> cranes = new ArrayList<>();
        List<List<int[]>> lines = new ArrayList<>();
        int[] doneAt = new int[12];
        int[] settings = {2, 6, 2, 8, 0};
        int[] distance = {2, 8};
        int[] next = {2, 8};
        int done;
        int work;
        int waited;
        List<int[]> ways = new ArrayList<>();

        State() {
            for (int quay = 0; quay < 12; quay++) {
                lines.add(new ArrayList<>());
            }
        }

        State copy() {
            State s = new State();
            s.clock = clock;
            for (Crane crane : cranes) {
                s.cranes.add(crane.copy());
            }
            for (int quay = 0; quay < 12; quay++) {
                for (int[] waiting : lines.get(quay)) {
                    s.lines.get(quay).add(waiting.clone());
                }
            }
            s.doneAt = doneAt.clone();
            s.settings = settings.clone();
            s.distance = distance.clone();
            s.next = next.clone();
            s.done = done;
            s.work = work;
            s.waited = waited;
            s.ways.addAll(ways);
            return s;
        }

        void leave(int number, int to, int why) {
            Crane crane = cranes.get(number);
            ways.add(new int[] {number, crane.quay, to, clock, why});
            crane.left = crane.quay / 4 == to / 4 ? settings[0] : settings[1];
            crane.quay = to;
            crane.doing = 2;
            crane.ways++;
            crane.idle = 0;
        }

        int open(int quay) {
            int open = lines.get(quay).size();
            for (Crane crane : cranes) {
                if (crane.doing == 2 && crane.quay == quay) {
                    open--;
                }
            }
            return open;
        }

        /** Of some quays the one with most, if two wait there. */
        int most(int from, int to) {
            int found = from;
            for (int quay = from; quay <= to; quay++) {
                if (open(quay) > open(found)) {
                    found = quay;
                }
            }
            return open(found) >= 2 ? found : -1;
        }

        boolean lend(int from, int to, boolean within) {
            int quay = most(from, to);
            if (quay < 0) {
                return false;
            }
            for (int number = 0; number < cranes.size(); number++) {
                Crane crane = cranes.get(number);
                boolean right = within ? crane.quay / 4 == quay / 4 && crane.quay != quay
                        : crane.quay / 4 != quay / 4;
                if (crane.doing == 0 && !crane.tied && right) {
                    leave(number, quay, within ? 1 : 2);
                    return true;
                }
            }
            return false;
        }

        void looked(int level, boolean sent) {
            distance[level] = sent ? settings[2 + level] : Math.min(64, 2 * distance[level]);
            next[level] = clock + distance[level];
        }

        void tick() {
            clock++;
            for (Crane crane : cranes) {
                if (crane.doing == 2 && --crane.left == 0) {
                    crane.doing = 0;
                }
            }
            for (Crane crane : cranes) {
                if (crane.doing == 1) {
                    work++;
                    if (--crane.left == 0) {
                        crane.doing = 0;
                        crane.done++;
                        doneAt[crane.quay]++;
                        done++;
                    }
                }
            }
            for (Crane crane : cranes) {
                if (crane.doing == 0 && !lines.get(crane.quay).isEmpty()) {
                    crane.doing = 1;
                    crane.left = lines.get(crane.quay).remove(0)[0];
                }
            }
            look();
            for (int number = 0; number < cranes.size(); number++) {
                Crane crane = cranes.get(number);
                if (crane.doing != 0 || crane.quay == crane.home) {
                    crane.idle = 0;
                    continue;
                }
                crane.idle++;
                if (settings[4] > 0 && crane.idle >= settings[4]) {
                    leave(number, crane.home, 3);
                }
            }
            for (List<int[]> line : lines) {
                for (int[] waiting : line) {
                    waiting[1]++;
                    waited++;
                }
            }
        }

        void look() {
            if (clock == next[0]) {
                boolean sent = false;
                for (int basin = 0; basin < 3; basin++) {
                    while (lend(basin * 4, basin * 4 + 3, true)) {
                        sent = true;
                    }
                }
                looked(0, sent);
            }
            if (clock == next[1]) {
                boolean sent = false;
                while (lend(0, 11, false)) {
                    sent = true;
                }
                looked(1, sent);
            }
        }

        int waiting() {
            return lines.stream().mapToInt(List::size).sum();
        }

        int doing(int what) {
            return (int) cranes.stream().filter(c -> c.doing == what).count();
        }
    }

    private State state = new State();
    private State kept;
    private final ArrayDeque<State> past = new ArrayDeque<>();
    private String text = "";

    private void act() {
        past.addLast(state.copy());
        if (past.size() > 4) {
            past.removeFirst();
        }
    }

    private boolean noArm(int arm) {
        return arm < 0 || arm >= state.cranes.size();
    }

    private static boolean noQuay(int quay) {
        return quay < 0 || quay > 11;
    }

    int addArm(int home, boolean tied) {
        if (noQuay(home)) {
            return -1;
        }
        if (state.cranes.size() == 16) {
            return -3;
        }
        act();
        add(state, home, tied);
        return state.cranes.size() - 1;
    }

    private static void add(State state, int home, boolean tied) {
        Crane crane = new Crane();
        crane.home = home;
        crane.quay = home;
        crane.tied = tied;
        state.cranes.add(crane);
    }

    int removeArm(int arm) {
        if (noArm(arm)) {
            return -1;
        }
        Crane crane = state.cranes.get(arm);
        if (crane.doing == 1 && state.lines.get(crane.quay).size() == 9) {
            return -3;
        }
        act();
        crane = state.cranes.remove(arm);
        if (crane.doing == 1) {
            state.lines.get(crane.quay).add(0, new int[] {crane.left, 0});
        }
        return state.cranes.size();
    }

    int tie(int arm, boolean tied) {
        if (noArm(arm)) {
            return -1;
        }
        if (state.cranes.get(arm).tied == tied) {
            return -5;
        }
        act();
        state.cranes.get(arm).tied = tied;
        return (int) state.cranes.stream().filter(c -> c.tied).count();
    }

    int moveHome(int arm, int home) {
        if (noArm(arm) || noQuay(home)) {
            return -1;
        }
        int before = state.cranes.get(arm).home;
        if (before == home) {
            return -5;
        }
        act();
        state.cranes.get(arm).home = home;
        return before;
    }

    int send(int arm, int quay) {
        if (noArm(arm) || noQuay(quay)) {
            return -1;
        }
        if (state.cranes.get(arm).doing != 0) {
            return -4;
        }
        if (state.cranes.get(arm).quay == quay) {
            return -5;
        }
        act();
        state.leave(arm, quay, 0);
        return state.cranes.get(arm).left;
    }

    int load(int quay, int work) {
        if (noQuay(quay)) {
            return -1;
        }
        if (work < 1 || work > 99) {
            return -2;
        }
        if (state.lines.get(quay).size() == 9) {
            return -3;
        }
        act();
        state.lines.get(quay).add(new int[] {work, 0});
        return state.lines.get(quay).size();
    }

    /** The first length of the text's beginnings that no text of loads begins with, less 1. */
    private int fault() {
        for (int length = 1; length <= text.length(); length++) {
            Matcher matcher = LOADS.matcher(text.substring(0, length));
            if (!matcher.matches() && !matcher.hitEnd()) {
                return length - 1;
            }
        }
        return LOADS.matcher(text).matches() ? -1 : text.length();
    }

    int loadAll() {
        int fault = fault();
        if (fault >= 0) {
            return -100 - fault;
        }
        State after = state.copy();
        for (String one : text.split(";")) {
            String[] parts = one.split("[:x]");
            int times = parts.length == 3 ? Integer.parseInt(parts[2]) : 1;
            for (int i = 0; i < times; i++) {
                after.lines.get(Integer.parseInt(parts[0])).add(new int[] {Integer.parseInt(parts[1]), 0});
            }
        }
        for (List<int[]> line : after.lines) {
            if (line.size() > 9) {
                return -3;
            }
        }
        act();
        state = after;
        return state.waiting();
    }

    int run(int ticks) {
        if (ticks < 1 || ticks > 200) {
            return -2;
        }
        if (state.clock + ticks > 99999) {
            return -3;
        }
        act();
        int before = state.done;
        for (int i = 0; i < ticks; i++) {
            state.tick();
        }
        return state.done - before;
    }

    int set(int which, int value) {
        if (which < 0 || which > 4) {
            return -1;
        }
        if (value < RANGES[which][0] || value > RANGES[which][1]) {
            return -2;
        }
        int before = state.settings[which];
        if (before == value) {
            return -5;
        }
        act();
        state.settings[which] = value;
        if (which == 2 || which == 3) {
            state.distance[which - 2] = value;
            state.next[which - 2] = state.clock + value;
        }
        return before;
    }

    int type(char character) {
        if (text.length() == 60) {
            return -3;
        }
        text += character;
        return text.length();
    }

    int clearText() {
        int before = text.length();
        text = "";
        return before;
    }

    int undo() {
        if (past.isEmpty()) {
            return -5;
        }
        state = past.removeLast();
        return past.size();
    }

    int keep() {
        kept = state.copy();
        return state.clock;
    }

    int restore() {
        if (kept == null) {
            return -5;
        }
        act();
        state = kept.copy();
        return state.clock;
    }

    int arm(int arm, int what) {
        if (noArm(arm)) {
            return -1;
        }
        if (what < 0 || what > 7) {
            return -2;
        }
        Crane c = state.cranes.get(arm);
        int idle = c.quay == c.home ? 0 : c.idle;
        return new int[] {c.home, c.quay, c.doing, c.left, c.tied ? 1 : 0, c.done, c.ways, c.doing == 0 ? idle : 0}[what];
    }

    int quay(int quay, int what) {
        if (noQuay(quay)) {
            return -1;
        }
        if (what < 0 || what > 6) {
            return -2;
        }
        int[] arms = new int[3];
        for (Crane crane : state.cranes) {
            if (crane.quay == quay) {
                arms[crane.doing]++;
            }
        }
        List<int[]> line = state.lines.get(quay);
        int work = line.stream().mapToInt(w -> w[0]).sum();
        int longest = line.stream().mapToInt(w -> w[1]).max().orElse(-5);
        return new int[] {arms[0] + arms[1], arms[0], arms[2], line.size(), work, state.doneAt[quay], longest}[what];
    }

    int waiting(int quay, int place, int what) {
        if (noQuay(quay) || place < 0 || place >= state.lines.get(quay).size()) {
            return -1;
        }
        return what < 0 || what > 1 ? -2 : state.lines.get(quay).get(place)[what];
    }

    int reason(int arm, int quay) {
        if (noArm(arm) || noQuay(quay)) {
            return -1;
        }
        Crane crane = state.cranes.get(arm);
        if (crane.doing != 0) {
            return 1;
        }
        if (crane.quay == quay) {
            return 2;
        }
        if (crane.tied) {
            return 3;
        }
        if (state.open(quay) < 2) {
            return 4;
        }
        for (int other = 0; other < 12; other++) {
            boolean group = crane.quay / 4 == quay / 4 ? other / 4 == crane.quay / 4 && other != crane.quay
                    : other / 4 != crane.quay / 4;
            boolean ahead = state.open(other) > state.open(quay)
                    || state.open(other) == state.open(quay) && other < quay;
            if (group && ahead) {
                return 5;
            }
        }
        return 0;
    }

    int way(int back, int what) {
        if (back < 0 || what < 0 || what > 4) {
            return -2;
        }
        if (back >= 16 || back >= state.ways.size()) {
            return -5;
        }
        return state.ways.get(state.ways.size() - 1 - back)[what];
    }

    int ifRun(int ticks, int what) {
        if (ticks < 1 || ticks > 200 || what < 0 || what > 3) {
            return -2;
        }
        State after = state.copy();
        for (int i = 0; i < ticks; i++) {
            after.tick();
        }
        return new int[] {after.done - state.done, after.waiting(), after.waited - state.waited,
            after.ways.size() - state.ways.size()}[what];
    }

    int bestHome(int ticks) {
        if (ticks < 1 || ticks > 60) {
            return -2;
        }
        int[] waited = new int[12];
        int best = 0;
        for (int quay = 0; quay < 12; quay++) {
            State after = state.copy();
            add(after, quay, true);
            for (int i = 0; i < ticks; i++) {
                after.tick();
            }
            waited[quay] = after.waited;
            if (waited[quay] < waited[best]) {
                best = quay;
            }
        }
        return best;
    }

    int count(int what) {
        if (what < 0 || what > 21) {
            return -2;
        }
        State s = state;
        int away = (int) s.cranes.stream().filter(c -> c.quay != c.home).count();
        return new int[] {s.clock, s.cranes.size(), s.doing(1), s.doing(0), s.doing(2), s.waiting(), s.done, s.work,
            s.waited, s.ways.size(), s.distance[0], s.distance[1], s.next[0], s.next[1], s.settings[0],
            s.settings[1], s.settings[2], s.settings[3], s.settings[4], away, past.size(), text.length()}[what];
    }
}
