/** Promises 8, 11 and 12: texts. */
final class TextsTest {
    static void test(Check check) {
        type(check);
        clearText(check);
        faults(check);
        loadAll(check);
        longestTexts(check);
        fullLines(check);
    }

    private static void type(Check check) {
        check.about("promise 11, type");
        LentArms x = new LentArms();
        check.same("any character", x.type((char) 0), 1);
        check.same("any character", x.type((char) 65535), 2);
        check.same("any character", x.type(' '), 3);
        check.same("count(21)", x.count(21), 3);
        for (int length = 4; length <= 60; length++) {
            check.same("type('7')", x.type('7'), length);
        }
        check.same("a 61st", x.type('7'), -3);
        check.same("count(21)", x.count(21), 60);
        check.same("it is no act", x.count(20), 0);
    }

    private static void clearText(Check check) {
        check.about("promise 12, clearText");
        LentArms x = new LentArms();
        check.same("clearText()", x.clearText(), 0);
        Calls.text(x, "0:1");
        check.same("clearText()", x.clearText(), 3);
        check.same("count(21)", x.count(21), 0);
        check.same("clearText()", x.clearText(), 0);
        check.same("the text is empty", x.loadAll(), -100);
        check.same("type('1')", x.type('1'), 1);
        check.same("it is no act", x.count(20), 0);
    }

    private static void faults(Check check) {
        check.about("promise 8, faults");
        String[] texts = {"", ":", "x", " 0:1", "0", "1", "2", "11", "10", "0;", "00", "01", "12", "19", "20", "99",
            "111", "0:", "0:0", "0::", "0:x", "0:01", "0:1:", "0:10x", "0:100", "0:990", "0:9x", "0:9x0", "0:9x1",
            "0:9xx", "0:9x23", "0:9x2x", "0:9x2:", "0:9X2", "0:9;", "0:9;;", "0:9;0", "0:9;0:9;", "0:9 ", "0 :9",
            "0:9x2;12:1", "11:99x9;11:99x", "0:9;-1:2", "0:9,1:2", "0:+1", "a:1",
            new String(new char[] {'0', ':', (char) (256 + '1')}), new String(new char[] {(char) (256 + '0'), ':', '1'}),
            new String(new char[] {'0', ':', '1', (char) 0}), new String(new char[] {'0', (char) (65280 + ':'), '1'}),
            new String(new char[] {'0', ':', (char) 0x661})};
        int[] due = {0, 0, 0, 0, 1, 1, 1, 2, 2, 1, 1, 1, 1, 1, 1, 1,
            2, 2, 2, 2, 2, 2, 3, 5, 4, 4, 4, 4, 4,
            4, 5, 5, 5, 3, 4, 4, 5, 8, 3, 1,
            7, 14, 4, 3, 2, 0,
            2, 0,
            3, 1,
            2};
        check.same("as many texts as faults", texts.length, due.length);
        LentArms x = new LentArms();
        for (int i = 0; i < texts.length; i++) {
            Calls.text(x, texts[i]);
            check.same("\"" + texts[i] + "\"", x.loadAll(), -100 - due[i]);
        }
        check.same("nothing came", x.count(5), 0);
        check.same("none is recorded", x.count(20), 0);
    }

    private static void loadAll(Check check) {
        check.about("promise 8, loadAll");
        LentArms x = new LentArms();
        x.load(3, 4);
        Calls.text(x, "3:10x2;11:99;3:5;0:1x9;10:7");
        check.same("loadAll()", x.loadAll(), 15);
        check.same("quay(3, 3)", x.quay(3, 3), 4);
        int[] works = {4, 10, 10, 5};
        for (int place = 0; place < 4; place++) {
            check.same("waiting(3, " + place + ", 0)", x.waiting(3, place, 0), works[place]);
        }
        check.same("quay(11, 4)", x.quay(11, 4), 99);
        check.same("quay(10, 4)", x.quay(10, 4), 7);
        check.same("quay(0, 4)", x.quay(0, 4), 9);
        check.same("the text stays", x.count(21), 27);
        check.same("it is one act", x.count(20), 2);
        check.same("undo()", x.undo(), 1);
        check.same("all are gone", x.count(5), 1);
        x.run(2);
        check.same("again", x.loadAll(), 15);
        check.same("they wait from 0 on", x.waiting(3, 1, 1), 0);
        check.same("one before waited", x.waiting(3, 0, 1), 2);
    }

    private static void longestTexts(Check check) {
        check.about("promise 8, long texts");
        LentArms x = new LentArms();
        StringBuilder fifteen = new StringBuilder();
        for (int i = 0; i < 15; i++) {
            fifteen.append(i == 0 ? "" : ";").append(i % 10).append(":").append(i % 9 + 1);
        }
        Calls.text(x, fifteen.toString());
        check.same("59 characters", x.count(21), 59);
        check.same("15 loads", x.loadAll(), 15);
        check.same("the last one", x.waiting(4, 1, 0), 6);
        x.type('x');
        check.same("60 characters", x.count(21), 60);
        check.same("it ends too early", x.loadAll(), -160);
        Calls.text(x, fifteen + ";");
        check.same("it ends too early", x.loadAll(), -160);
        Calls.text(x, "0" + fifteen);
        check.same("a fault at once", x.loadAll(), -101);
        Calls.text(x, fifteen + "0");
        check.same("14 * 4 + 4 characters", x.count(21), 60);
        check.same("the last work has two digits", x.loadAll(), 30);
        check.same("the last work has two digits", x.waiting(4, 3, 0), 60);
    }

    private static void fullLines(Check check) {
        check.about("promise 8, full lines");
        LentArms x = new LentArms();
        Calls.text(x, "5:1x9;5:1");
        check.same("10 at one quay", x.loadAll(), -3);
        Calls.text(x, "5:1x4;6:2;5:3x5");
        check.same("9 at one quay", x.loadAll(), 10);
        Calls.text(x, "7:1;6:1x9;8:1");
        check.same("all or none", x.loadAll(), -3);
        check.same("count(5)", x.count(5), 10);
        check.same("only the one is recorded", x.count(20), 1);
        Calls.text(x, "11:1;6:1x8;0:1");
        check.same("9 at another", x.loadAll(), 20);
        Calls.text(x, "5:1;12:1");
        check.same("a fault before FULL", x.loadAll(), -105);
    }

    private TextsTest() {
    }
}
