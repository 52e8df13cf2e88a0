/** Counts the answers that are as due, and prints each that is not. */
final class Check {
    private int passed = 0;
    private int failed = 0;
    private String about = "";

    void about(String what) {
        about = what;
    }

    void same(String call, long got, long due) {
        if (got == due) {
            passed++;
            return;
        }
        failed++;
        System.out.println(about + ": " + call + " answered " + got + ", due is " + due);
    }

    void holds(String what, boolean holds) {
        same(what, holds ? 1 : 0, 1);
    }

    int failed() {
        return failed;
    }

    void tell() {
        System.out.println(passed + " passed, " + failed + " failed");
    }
}
