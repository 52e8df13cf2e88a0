/**
 * Crane arms of a harbour that are lent from quay to quay.
 * What each call does is promised in ../shared/DOC.md; the names here are the names there.
 */
public final class LentArms {
    /** There is no such quay, arm or load. */
    public static final int UNKNOWN = -1;
    /** Another argument is out of range. */
    public static final int BAD_VALUE = -2;
    /** There is no more room. */
    public static final int FULL = -3;
    /** This is not possible. */
    public static final int NOT_POSSIBLE = -4;
    /** There is no such thing; not an error. */
    public static final int NONE = -5;

    private static final int QUAYS = 12;
    private static final int BASINS = 3;
    private static final int QUAYS_OF_BASIN = 4;
    private static final int MOST_ARMS = 16;
    private static final int MOST_WAITING = 9;
    private static final int MOST_WORK = 99;
    private static final int MOST_TICKS = 200;
    private static final int MOST_TICKS_OF_SEARCH = 60;
    private static final int LAST_CLOCK = 99999;
    private static final int MOST_STATES = 4;
    private static final int FAULT_BASE = -100;

    private static final int IDLE = 0;
    private static final int WORKS = 1;
    private static final int ON_ITS_WAY = 2;

    private static final int SENT_BY_CALL = 0;
    private static final int LENT_IN_BASIN = 1;
    private static final int LENT_OVER_PORT = 2;
    private static final int WENT_HOME = 3;

    private static final int IN_BASIN = 0;
    private static final int OVER_PORT = 1;
    private static final int LEVELS = 2;
    private static final int MOST_DISTANCE = 64;
    private static final int FEWEST_TO_HELP = 2;
    private static final int NOT_FOUND = -1;

    private static final int WAY_IN_BASIN = 0;
    private static final int WAY_OVER_PORT = 1;
    private static final int FIRST_LOOK_SETTING = 2;
    private static final int IDLE_TO_HOME = 4;
    private static final int SETTINGS = 5;
    private static final int[] LOWEST_SETTING = {1, 1, 1, 1, 0};
    private static final int[] HIGHEST_SETTING = {20, 50, 64, 64, 99};
    private static final int[] FIRST_SETTING = {2, 6, 2, 8, 0};

    private final Harbour now = new Harbour();
    private final Harbour[] past = new Harbour[MOST_STATES];
    private int pastStates = 0;
    private final Harbour snapshot = new Harbour();
    private boolean hasSnapshot = false;
    private final Harbour trial = new Harbour();
    private final LoadText text = new LoadText();

    /** Creates a harbour without arms, at the clock 0. */
    public LentArms() {
        // every state that is ever kept stands in a row made here, so that no call makes objects
        for (int i = 0; i < MOST_STATES; i++) {
            past[i] = new Harbour();
        }
    }

    // ---- arms

    /** Adds an arm, idle at its home. */
    public int addArm(int home, boolean tied) {
        if (!isQuay(home)) {
            return UNKNOWN;
        }
        if (now.armCount >= MOST_ARMS) {
            return FULL;
        }
        remember();
        now.append(home, tied);
        return now.armCount - 1;
    }

    /** Removes an arm; a load on which it works goes back to the head of the line. */
    public int removeArm(int arm) {
        if (!now.hasArm(arm)) {
            return UNKNOWN;
        }
        Arm leaving = now.arms[arm];
        if (leaving.doing == WORKS && now.lines[leaving.quay].length >= MOST_WAITING) {
            return FULL;
        }
        remember();
        now.takeOut(arm);
        return now.armCount;
    }

    /** Ties an arm, or unties it. */
    public int tie(int arm, boolean tied) {
        if (!now.hasArm(arm)) {
            return UNKNOWN;
        }
        if (now.arms[arm].tied == tied) {
            return NONE;
        }
        remember();
        now.arms[arm].tied = tied;
        return now.tiedArms();
    }

    /** Gives an arm another home. */
    public int moveHome(int arm, int home) {
        if (!now.hasArm(arm) || !isQuay(home)) {
            return UNKNOWN;
        }
        int previous = now.arms[arm].home;
        if (previous == home) {
            return NONE;
        }
        remember();
        now.arms[arm].home = home;
        return previous;
    }

    /** Sends an idle arm to a quay. */
    public int send(int arm, int quay) {
        if (!now.hasArm(arm) || !isQuay(quay)) {
            return UNKNOWN;
        }
        if (now.arms[arm].doing != IDLE) {
            return NOT_POSSIBLE;
        }
        if (now.arms[arm].quay == quay) {
            return NONE;
        }
        remember();
        now.depart(arm, quay, SENT_BY_CALL);
        return now.arms[arm].left;
    }

    // ---- loads, ticks

    /** A load comes, behind the others. */
    public int load(int quay, int work) {
        if (!isQuay(quay)) {
            return UNKNOWN;
        }
        if (work < 1 || work > MOST_WORK) {
            return BAD_VALUE;
        }
        if (now.lines[quay].length >= MOST_WAITING) {
            return FULL;
        }
        remember();
        now.lines[quay].append(work, now.clock);
        return now.lines[quay].length;
    }

    /** The loads of the text come; all of them, or none. */
    public int loadAll() {
        int fault = text.readLoads();
        if (fault != LoadText.NO_FAULT) {
            return FAULT_BASE - fault;
        }
        for (int quay = 0; quay < QUAYS; quay++) {
            if (now.lines[quay].length + text.loadsFor(quay) > MOST_WAITING) {
                return FULL;
            }
        }
        remember();
        for (int i = 0; i < text.rows; i++) {
            Line line = now.lines[text.quays[i]];
            for (int j = 0; j < text.times[i]; j++) {
                line.append(text.works[i], now.clock);
            }
        }
        return now.waitingTogether();
    }

    /** Lets ticks pass. */
    public int run(int ticks) {
        if (ticks < 1 || ticks > MOST_TICKS) {
            return BAD_VALUE;
        }
        if (now.clock + ticks > LAST_CLOCK) {
            return FULL;
        }
        remember();
        int before = now.loadsDone;
        now.pass(ticks);
        return now.loadsDone - before;
    }

    /** Sets a setting. */
    public int set(int which, int value) {
        if (which < 0 || which >= SETTINGS) {
            return UNKNOWN;
        }
        if (value < LOWEST_SETTING[which] || value > HIGHEST_SETTING[which]) {
            return BAD_VALUE;
        }
        int previous = now.settings[which];
        if (previous == value) {
            return NONE;
        }
        remember();
        now.change(which, value);
        return previous;
    }

    // ---- texts

    /** Types a character behind the text. */
    public int type(char character) {
        if (text.length >= LoadText.MOST_SIGNS) {
            return FULL;
        }
        text.append(character);
        return text.length;
    }

    /** Empties the text. */
    public int clearText() {
        int before = text.length;
        text.length = 0;
        return before;
    }

    // ---- history

    /** Removes and restores the latest state of the history. */
    public int undo() {
        if (pastStates == 0) {
            return NONE;
        }
        pastStates--;
        now.copyFrom(past[pastStates]);
        return pastStates;
    }

    /** Takes a snapshot of the state, in place of the one that was. */
    public int keep() {
        snapshot.copyFrom(now);
        hasSnapshot = true;
        return now.clock;
    }

    /** Restores the state of the snapshot, which stays. */
    public int restore() {
        if (!hasSnapshot) {
            return NONE;
        }
        remember();
        now.copyFrom(snapshot);
        return now.clock;
    }

    // ---- what is told

    /** Tells of an arm. */
    public int arm(int arm, int what) {
        if (!now.hasArm(arm)) {
            return UNKNOWN;
        }
        Arm told = now.arms[arm];
        switch (what) {
            case 0: return told.home;
            case 1: return told.quay;
            case 2: return told.doing;
            case 3: return told.left;
            case 4: return told.tied ? 1 : 0;
            case 5: return told.loadsDone;
            case 6: return told.waysGone;
            case 7: return told.idleTicksAway();
            default: return BAD_VALUE;
        }
    }

    /** Tells of a quay. */
    public int quay(int quay, int what) {
        if (!isQuay(quay)) {
            return UNKNOWN;
        }
        Line line = now.lines[quay];
        switch (what) {
            case 0: return now.armsAt(quay, IDLE) + now.armsAt(quay, WORKS);
            case 1: return now.armsAt(quay, IDLE);
            case 2: return line.coming;
            case 3: return line.length;
            case 4: return line.workTogether();
            case 5: return line.loadsDone;
            case 6: return line.length == 0 ? NONE : line.longestWait(now.clock);
            default: return BAD_VALUE;
        }
    }

    /** Tells of a load that waits. */
    public int waiting(int quay, int place, int what) {
        if (!isQuay(quay) || place < 0 || place >= now.lines[quay].length) {
            return UNKNOWN;
        }
        switch (what) {
            case 0: return now.lines[quay].work[place];
            case 1: return now.clock - now.lines[quay].came[place];
            default: return BAD_VALUE;
        }
    }

    /** Tells why an arm would not be sent to a quay by a look, were one made now. */
    public int reason(int arm, int quay) {
        if (!now.hasArm(arm) || !isQuay(quay)) {
            return UNKNOWN;
        }
        Arm asked = now.arms[arm];
        if (asked.doing != IDLE) {
            return 1;
        }
        if (asked.quay == quay) {
            return 2;
        }
        if (asked.tied) {
            return 3;
        }
        if (now.lines[quay].open() < FEWEST_TO_HELP) {
            return 4;
        }
        return now.isOutdone(quay, asked.quay) ? 5 : 0;
    }

    /** Tells of the latest ways of arms. */
    public int way(int back, int what) {
        if (back < 0 || what < 0 || what >= WayLog.FACTS) {
            return BAD_VALUE;
        }
        if (back >= now.log.kept()) {
            return NONE;
        }
        return now.log.fact(back, what);
    }

    /** Tells what some ticks would bring. */
    public int ifRun(int ticks, int what) {
        if (ticks < 1 || ticks > MOST_TICKS || what < 0 || what > 3) {
            return BAD_VALUE;
        }
        trial.copyFrom(now);
        trial.pass(ticks);
        switch (what) {
            case 0: return trial.loadsDone - now.loadsDone;
            case 1: return trial.waitingTogether();
            case 2: return trial.ticksWaited - now.ticksWaited;
            default: return trial.log.total - now.log.total;
        }
    }

    /** Finds the quay at which one arm more would leave the fewest ticks that loads wait. */
    public int bestHome(int ticks) {
        if (ticks < 1 || ticks > MOST_TICKS_OF_SEARCH) {
            return BAD_VALUE;
        }
        int best = NOT_FOUND;
        int fewest = 0;
        for (int quay = 0; quay < QUAYS; quay++) {
            trial.copyFrom(now);
            trial.append(quay, true);
            trial.pass(ticks);
            if (best == NOT_FOUND || trial.ticksWaited < fewest) {
                fewest = trial.ticksWaited;
                best = quay;
            }
        }
        return best;
    }

    /** Tells a number of the whole harbour. */
    public int count(int what) {
        switch (what) {
            case 0: return now.clock;
            case 1: return now.armCount;
            case 2: return now.armsThat(WORKS);
            case 3: return now.armsThat(IDLE);
            case 4: return now.armsThat(ON_ITS_WAY);
            case 5: return now.waitingTogether();
            case 6: return now.loadsDone;
            case 7: return now.workDone;
            case 8: return now.ticksWaited;
            case 9: return now.log.total;
            case 10: return now.distances[IN_BASIN];
            case 11: return now.distances[OVER_PORT];
            case 12: return now.nextLooks[IN_BASIN];
            case 13: return now.nextLooks[OVER_PORT];
            case 14: case 15: case 16: case 17: case 18: return now.settings[what - 14];
            case 19: return now.armsAway();
            case 20: return pastStates;
            case 21: return text.length;
            default: return BAD_VALUE;
        }
    }

    private static boolean isQuay(int quay) {
        return quay >= 0 && quay < QUAYS;
    }

    private static boolean inOneBasin(int quay, int other) {
        return quay / QUAYS_OF_BASIN == other / QUAYS_OF_BASIN;
    }

    /** Records the state before an act; called when no error can come any more. */
    private void remember() {
        if (pastStates >= MOST_STATES) {
            dropOldest();
        }
        past[pastStates].copyFrom(now);
        pastStates++;
    }

    private void dropOldest() {
        Harbour oldest = past[0];
        for (int i = 1; i < MOST_STATES; i++) {
            past[i - 1] = past[i];
        }
        // its rows serve again for the newest one
        past[MOST_STATES - 1] = oldest;
        pastStates = MOST_STATES - 1;
    }

    /** One arm. */
    private static final class Arm {
        int home;
        int quay;
        int doing;
        int left;
        boolean tied;
        int loadsDone;
        int waysGone;
        int idleTicks;

        void begin(int itsHome, boolean isTied) {
            home = itsHome;
            quay = itsHome;
            doing = IDLE;
            left = 0;
            tied = isTied;
            loadsDone = 0;
            waysGone = 0;
            idleTicks = 0;
        }

        void copyFrom(Arm other) {
            home = other.home;
            quay = other.quay;
            doing = other.doing;
            left = other.left;
            tied = other.tied;
            loadsDone = other.loadsDone;
            waysGone = other.waysGone;
            idleTicks = other.idleTicks;
        }

        void setOut(int to, int ticks) {
            quay = to;
            doing = ON_ITS_WAY;
            left = ticks;
            waysGone++;
            idleTicks = 0;
        }

        boolean isIdleAway() {
            return doing == IDLE && quay != home;
        }

        /** A home that was moved to the arm makes its ticks count no more, before any tick passes. */
        int idleTicksAway() {
            return isIdleAway() ? idleTicks : 0;
        }
    }

    /** The loads that wait at one quay, and what is counted there. */
    private static final class Line {
        final int[] work = new int[MOST_WAITING];
        /** The clock at which each came, so that no tick has to count for each load. */
        final int[] came = new int[MOST_WAITING];
        int length;
        int loadsDone;
        int coming;

        void copyFrom(Line other) {
            System.arraycopy(other.work, 0, work, 0, MOST_WAITING);
            System.arraycopy(other.came, 0, came, 0, MOST_WAITING);
            length = other.length;
            loadsDone = other.loadsDone;
            coming = other.coming;
        }

        void append(int itsWork, int clock) {
            if (length < MOST_WAITING) {
                work[length] = itsWork;
                came[length] = clock;
                length++;
            }
        }

        void putFirst(int itsWork, int clock) {
            if (length < MOST_WAITING) {
                System.arraycopy(work, 0, work, 1, length);
                System.arraycopy(came, 0, came, 1, length);
                work[0] = itsWork;
                came[0] = clock;
                length++;
            }
        }

        /** Takes the first load out of the line; its work, or 0 if none waits. */
        int takeFirst() {
            if (length == 0) {
                return 0;
            }
            int taken = work[0];
            length--;
            System.arraycopy(work, 1, work, 0, length);
            System.arraycopy(came, 1, came, 0, length);
            return taken;
        }

        /** The loads that wait as a look counts them: an arm that comes is as good as one taken. */
        int open() {
            return length - coming;
        }

        int workTogether() {
            int sum = 0;
            for (int i = 0; i < length; i++) {
                sum += work[i];
            }
            return sum;
        }

        int longestWait(int clock) {
            int longest = 0;
            for (int i = 0; i < length; i++) {
                // the first need not be the longest: one that was put back waits from 0 on
                longest = Math.max(longest, clock - came[i]);
            }
            return longest;
        }
    }

    /** The latest ways of arms. */
    private static final class WayLog {
        static final int FACTS = 5;
        static final int MOST_KEPT = 16;

        final int[] facts = new int[MOST_KEPT * FACTS];
        int total;

        void copyFrom(WayLog other) {
            System.arraycopy(other.facts, 0, facts, 0, MOST_KEPT * FACTS);
            total = other.total;
        }

        void note(int arm, int from, int to, int clock, int why) {
            int at = total % MOST_KEPT * FACTS;
            facts[at] = arm;
            facts[at + 1] = from;
            facts[at + 2] = to;
            facts[at + 3] = clock;
            facts[at + 4] = why;
            total++;
        }

        int kept() {
            return Math.min(total, MOST_KEPT);
        }

        /** A fact of a way that is kept. */
        int fact(int back, int what) {
            return facts[(total - 1 - back) % MOST_KEPT * FACTS + what];
        }
    }

    /** A state: all that a history or a snapshot keeps. */
    private static final class Harbour {
        int clock;
        int armCount;
        /** One more than may be added, for the search for the best home. */
        final Arm[] arms = new Arm[MOST_ARMS + 1];
        final Line[] lines = new Line[QUAYS];
        final int[] settings = new int[SETTINGS];
        final int[] distances = new int[LEVELS];
        final int[] nextLooks = new int[LEVELS];
        final WayLog log = new WayLog();
        int loadsDone;
        int workDone;
        int ticksWaited;

        Harbour() {
            for (int i = 0; i < arms.length; i++) {
                arms[i] = new Arm();
            }
            for (int i = 0; i < QUAYS; i++) {
                lines[i] = new Line();
            }
            for (int i = 0; i < SETTINGS; i++) {
                settings[i] = FIRST_SETTING[i];
            }
            for (int level = 0; level < LEVELS; level++) {
                distances[level] = FIRST_SETTING[FIRST_LOOK_SETTING + level];
                nextLooks[level] = distances[level];
            }
        }

        void copyFrom(Harbour other) {
            clock = other.clock;
            armCount = other.armCount;
            for (int i = 0; i < armCount; i++) {
                arms[i].copyFrom(other.arms[i]);
            }
            for (int i = 0; i < QUAYS; i++) {
                lines[i].copyFrom(other.lines[i]);
            }
            System.arraycopy(other.settings, 0, settings, 0, SETTINGS);
            System.arraycopy(other.distances, 0, distances, 0, LEVELS);
            System.arraycopy(other.nextLooks, 0, nextLooks, 0, LEVELS);
            log.copyFrom(other.log);
            loadsDone = other.loadsDone;
            workDone = other.workDone;
            ticksWaited = other.ticksWaited;
        }

        // -- arms and settings

        boolean hasArm(int number) {
            return number >= 0 && number < armCount;
        }

        void append(int home, boolean tied) {
            if (armCount < arms.length) {
                arms[armCount].begin(home, tied);
                armCount++;
            }
        }

        /** Takes an arm out; there must be room for its load. */
        void takeOut(int number) {
            Arm leaving = arms[number];
            Line line = lines[leaving.quay];
            if (leaving.doing == WORKS) {
                line.putFirst(leaving.left, clock);
            } else if (leaving.doing == ON_ITS_WAY) {
                line.coming--;
            }
            armCount--;
            for (int i = number; i < armCount; i++) {
                arms[i] = arms[i + 1];
            }
            // its row serves again for the next arm
            arms[armCount] = leaving;
        }

        void depart(int number, int to, int why) {
            Arm leaving = arms[number];
            int from = leaving.quay;
            log.note(number, from, to, clock, why);
            leaving.setOut(to, settings[inOneBasin(from, to) ? WAY_IN_BASIN : WAY_OVER_PORT]);
            lines[to].coming++;
        }

        void change(int which, int value) {
            settings[which] = value;
            int level = which - FIRST_LOOK_SETTING;
            if (level >= 0 && level < LEVELS) {
                distances[level] = value;
                nextLooks[level] = clock + value;
            }
        }

        // -- ticks

        void pass(int ticks) {
            for (int i = 0; i < ticks; i++) {
                tick();
            }
        }

        private void tick() {
            clock++;
            goOn();
            takeLoads();
            if (clock == nextLooks[IN_BASIN]) {
                lookInBasins();
            }
            if (clock == nextLooks[OVER_PORT]) {
                lookOverPort();
            }
            goHome();
            ticksWaited += waitingTogether();
        }

        /** Arms on their way and arms that work, in one pass: none of them meets another here. */
        private void goOn() {
            for (int i = 0; i < armCount; i++) {
                Arm busy = arms[i];
                if (busy.doing == ON_ITS_WAY) {
                    goOnTheWay(busy);
                } else if (busy.doing == WORKS) {
                    goOnWorking(busy);
                }
            }
        }

        private void goOnTheWay(Arm going) {
            going.left--;
            if (going.left == 0) {
                going.doing = IDLE;
                lines[going.quay].coming--;
            }
        }

        private void goOnWorking(Arm working) {
            working.left--;
            workDone++;
            if (working.left == 0) {
                working.doing = IDLE;
                working.loadsDone++;
                lines[working.quay].loadsDone++;
                loadsDone++;
            }
        }

        private void takeLoads() {
            for (int i = 0; i < armCount; i++) {
                Arm taker = arms[i];
                if (taker.doing == IDLE && lines[taker.quay].length > 0) {
                    taker.doing = WORKS;
                    taker.left = lines[taker.quay].takeFirst();
                }
            }
        }

        private void goHome() {
            for (int i = 0; i < armCount; i++) {
                Arm resting = arms[i];
                resting.idleTicks = resting.isIdleAway() ? resting.idleTicks + 1 : 0;
                if (settings[IDLE_TO_HOME] > 0 && resting.idleTicks >= settings[IDLE_TO_HOME]) {
                    depart(i, resting.home, WENT_HOME);
                }
            }
        }

        // -- looks

        private void lookInBasins() {
            int before = log.total;
            for (int basin = 0; basin < BASINS; basin++) {
                lend(basin * QUAYS_OF_BASIN, (basin + 1) * QUAYS_OF_BASIN, LENT_IN_BASIN);
            }
            planNextLook(IN_BASIN, log.total > before);
        }

        private void lookOverPort() {
            int before = log.total;
            lend(0, QUAYS, LENT_OVER_PORT);
            planNextLook(OVER_PORT, log.total > before);
        }

        /** Lends arms to the quays from the first to before the end; over when the neediest gets none. */
        private void lend(int first, int end, int why) {
            // no arm is lent twice, so that there are no more rounds than arms
            for (int i = 0; i < armCount; i++) {
                int quay = neediest(first, end);
                int helper = quay == NOT_FOUND ? NOT_FOUND : helperFor(quay, why == LENT_IN_BASIN);
                if (helper == NOT_FOUND) {
                    return;
                }
                depart(helper, quay, why);
            }
        }

        private void planNextLook(int level, boolean found) {
            distances[level] = found ? settings[FIRST_LOOK_SETTING + level]
                    : Math.min(distances[level] * 2, MOST_DISTANCE);
            nextLooks[level] = clock + distances[level];
        }

        /** The quay with most loads of those from the first to before the end, if it needs help. */
        private int neediest(int first, int end) {
            int found = NOT_FOUND;
            int most = FEWEST_TO_HELP - 1;
            for (int quay = first; quay < end; quay++) {
                if (lines[quay].open() > most) {
                    most = lines[quay].open();
                    found = quay;
                }
            }
            return found;
        }

        /** The lowest arm that may be lent to a quay, from its basin or from the others. */
        private int helperFor(int quay, boolean fromItsBasin) {
            for (int i = 0; i < armCount; i++) {
                Arm asked = arms[i];
                if (asked.doing == IDLE && !asked.tied && asked.quay != quay
                        && inOneBasin(asked.quay, quay) == fromItsBasin) {
                    return i;
                }
            }
            return NOT_FOUND;
        }

        /** Whether an arm from a quay would rather be sent to another one than to this. */
        boolean isOutdone(int quay, int from) {
            boolean within = inOneBasin(quay, from);
            for (int other = 0; other < QUAYS; other++) {
                int more = lines[other].open() - lines[quay].open();
                boolean goesAhead = more > 0 || more == 0 && other < quay;
                if (goesAhead && other != from && inOneBasin(other, from) == within) {
                    return true;
                }
            }
            return false;
        }

        // -- counts

        int waitingTogether() {
            int sum = 0;
            for (int i = 0; i < QUAYS; i++) {
                sum += lines[i].length;
            }
            return sum;
        }

        int armsThat(int doing) {
            int sum = 0;
            for (int i = 0; i < armCount; i++) {
                sum += arms[i].doing == doing ? 1 : 0;
            }
            return sum;
        }

        int armsAt(int quay, int doing) {
            int sum = 0;
            for (int i = 0; i < armCount; i++) {
                sum += arms[i].quay == quay && arms[i].doing == doing ? 1 : 0;
            }
            return sum;
        }

        int tiedArms() {
            int sum = 0;
            for (int i = 0; i < armCount; i++) {
                sum += arms[i].tied ? 1 : 0;
            }
            return sum;
        }

        int armsAway() {
            int sum = 0;
            for (int i = 0; i < armCount; i++) {
                sum += arms[i].quay != arms[i].home ? 1 : 0;
            }
            return sum;
        }
    }

    /** The text, and the loads that were last read from it. */
    private static final class LoadText {
        static final int NO_FAULT = -1;
        static final int MOST_SIGNS = 60;
        /** A load has three signs at least and one between two, so that more find no room. */
        static final int MOST_ROWS = MOST_SIGNS / 4 + 1;
        static final int NOT_READ = -1;
        static final int MOST_TIMES = 9;

        final char[] signs = new char[MOST_SIGNS];
        int length;
        int place;
        int rows;
        final int[] quays = new int[MOST_ROWS];
        final int[] works = new int[MOST_ROWS];
        final int[] times = new int[MOST_ROWS];

        void append(char sign) {
            if (length < MOST_SIGNS) {
                signs[length] = sign;
                length++;
            }
        }

        /** Reads the whole text into the rows; where its fault is, if it has one. */
        int readLoads() {
            place = 0;
            rows = 0;
            for (int i = 0; i < MOST_ROWS; i++) {
                if (!readLoad()) {
                    return place;
                }
                if (place == length) {
                    return NO_FAULT;
                }
                if (!skip(';')) {
                    return place;
                }
            }
            return place;
        }

        int loadsFor(int quay) {
            int sum = 0;
            for (int i = 0; i < rows; i++) {
                sum += quays[i] == quay ? times[i] : 0;
            }
            return sum;
        }

        /** Reads one load; if it can't, the place is that of the fault. */
        private boolean readLoad() {
            int quay = readNumber(0, QUAYS - 1);
            if (quay == NOT_READ || !skip(':')) {
                return false;
            }
            int work = readNumber(1, MOST_WORK);
            if (work == NOT_READ) {
                return false;
            }
            int howMany = skip('x') ? readNumber(2, MOST_TIMES) : 1;
            if (howMany == NOT_READ || rows >= MOST_ROWS) {
                return false;
            }
            quays[rows] = quay;
            works[rows] = work;
            times[rows] = howMany;
            rows++;
            return true;
        }

        /** Reads a number whose lowest value is a single digit. */
        private int readNumber(int lowest, int highest) {
            int value = digit();
            if (value < lowest) {
                return NOT_READ;
            }
            place++;
            // the highest have two digits, and a 0 takes no other behind it
            int next = digit();
            if (value > 0 && next >= 0 && value * 10 + next <= highest) {
                place++;
                return value * 10 + next;
            }
            return value;
        }

        /** The digit at the place, or less than any digit. */
        private int digit() {
            if (place < length && signs[place] >= '0' && signs[place] <= '9') {
                return signs[place] - '0';
            }
            return NOT_READ;
        }

        private boolean skip(char sign) {
            if (place < length && signs[place] == sign) {
                place++;
                return true;
            }
            return false;
        }
    }
}
