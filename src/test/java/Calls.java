/** Short ways to bring a harbour to where a test begins. */
final class Calls {
    /** Numbers that no argument's range holds. */
    static final int[] FAR_OFF = {Integer.MIN_VALUE, -1000, -1, 1000, Integer.MAX_VALUE};

    static void loads(LentArms x, int quay, int... works) {
        for (int work : works) {
            x.load(quay, work);
        }
    }

    static void loadTimes(LentArms x, int quay, int work, int times) {
        for (int i = 0; i < times; i++) {
            x.load(quay, work);
        }
    }

    static void arms(LentArms x, int home, boolean tied, int times) {
        for (int i = 0; i < times; i++) {
            x.addArm(home, tied);
        }
    }

    static void text(LentArms x, String text) {
        x.clearText();
        for (char sign : text.toCharArray()) {
            x.type(sign);
        }
    }

    /** Everything that can be told; of the trials, one of each. */
    static int[] told(LentArms x) {
        int[] told = new int[2000];
        int at = 0;
        for (int what = 0; what < 22; what++) {
            told[at++] = x.count(what);
        }
        for (int arm = 0; arm < 17; arm++) {
            for (int what = 0; what < 8; what++) {
                told[at++] = x.arm(arm, what);
            }
            for (int quay = 0; quay < 12; quay++) {
                told[at++] = x.reason(arm, quay);
            }
        }
        for (int quay = 0; quay < 12; quay++) {
            for (int what = 0; what < 7; what++) {
                told[at++] = x.quay(quay, what);
            }
            for (int place = 0; place < 10; place++) {
                told[at++] = x.waiting(quay, place, 0);
                told[at++] = x.waiting(quay, place, 1);
            }
        }
        for (int back = 0; back < 18; back++) {
            for (int what = 0; what < 5; what++) {
                told[at++] = x.way(back, what);
            }
        }
        // what is held but not told shows in what comes of it
        for (int what = 0; what < 4; what++) {
            told[at++] = x.ifRun(40, what);
        }
        told[at++] = x.bestHome(20);
        return java.util.Arrays.copyOf(told, at);
    }

    /** What is told, without the states in the history and the length of the text. */
    static int[] state(LentArms x) {
        int[] state = told(x);
        state[20] = 0;
        state[21] = 0;
        return state;
    }

    private Calls() {
    }
}
