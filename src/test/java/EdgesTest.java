import java.nio.file.Files;
import java.nio.file.Path;
import java.util.ArrayList;
import java.util.Arrays;
import java.util.List;
import java.util.regex.Matcher;
import java.util.regex.Pattern;

/**
 * Runs the cases of src/test/edges.txt: each begins with words of ../shared/DOC.md, and its calls would
 * answer otherwise if those words were broken. No sentence of the document may be without a case.
 */
final class EdgesTest {
    private static final Pattern HEAD = Pattern.compile("> (What it is|Terms|Promise \\d+): (.*)");
    private static final Pattern STEP = Pattern.compile("(?:(\\d+)x )?(\\w+)\\((.*)\\)(?: = (.*))?");
    private static final Pattern SENTENCE = Pattern.compile("[^.;:]+[.;:]*");
    /** Sentences that only head a list, or that tell how the document itself is to be read. */
    private static final Pattern NO_CASE = Pattern.compile("\\W*\\d?\\.?|## Promise \\d+:|.*`.*\\(.*\\)`:|---- .*|range;"
            + "|.*(Ahead of the calls|the interface says|In parentheses|first value|see below|Errors are reported"
            + "|The constants|In a tick these happen).*");

    private static final Pattern EXAMPLE = Pattern.compile("port\\.(\\w+)\\((.*)\\); +// (-?\\d+)");

    private final Check check;
    private final String document;
    private final List<int[]> quoted = new ArrayList<>();
    private Play play;

    static void test(Check check, String cases, String document) throws Exception {
        EdgesTest edges = new EdgesTest(check, Files.readString(Path.of(document)).replaceAll("\\s+", " "));
        for (String line : Files.readAllLines(Path.of(cases))) {
            edges.line(line.trim());
        }
        check.about("cases for the document");
        edges.everySentence();
    }

    /** What README.md tells of its example must be so. */
    static void readme(Check check, String readme) throws Exception {
        check.about("the example of " + readme);
        Play play = new Play(check);
        int calls = 0;
        for (String line : Files.readAllLines(Path.of(readme))) {
            Matcher example = EXAMPLE.matcher(line);
            if (example.lookingAt()) {
                play.step(example.group(1), example.group(2), example.group(3));
                calls++;
            }
        }
        check.holds("has calls", calls > 0);
    }

    private EdgesTest(Check check, String document) {
        this.check = check;
        this.document = document;
    }

    private void line(String line) {
        Matcher head = HEAD.matcher(line);
        if (head.matches()) {
            check.about(line.substring(2));
            quote(head.group(1), head.group(2));
            play = new Play(check);
        } else if (line.equals("new")) {
            play = new Play(check);
        } else if (!line.isEmpty() && !line.startsWith("#")) {
            for (String step : line.split(" {2,}")) {
                step(step);
            }
        }
    }

    private void step(String step) {
        Matcher parts = STEP.matcher(step);
        check.holds("a step: " + step, parts.matches());
        int times = parts.group(1) == null ? 1 : Integer.parseInt(parts.group(1));
        for (int i = 0; i < times; i++) {
            play.step(parts.group(2), parts.group(3), parts.group(4));
        }
    }

    private int[] section(String name) {
        int from = document.indexOf("## " + name + (name.startsWith("Promise") ? ":" : ""));
        int end = document.indexOf(" ## ", from + 1);
        return new int[] {from, end < 0 ? document.length() : end};
    }

    private void quote(String section, String words) {
        int[] range = section(section);
        int at = document.indexOf(words, range[0]);
        check.holds("the document says so", range[0] >= 0 && at >= 0 && at < range[1]);
        for (; at >= 0 && at < range[1]; at = document.indexOf(words, at + 1)) {
            quoted.add(new int[] {at, at + words.length()});
        }
    }

    private void everySentence() {
        int from = section("Terms")[0];
        int end = section("Not promised")[0];
        Matcher sentence = SENTENCE.matcher(document).region(from, section("Promise 23")[1]);
        check.holds("the document is there", from > 0 && end > from);
        while (sentence.find()) {
            String words = sentence.group().trim();
            boolean found = quoted.stream().anyMatch(q -> q[0] < sentence.end() && sentence.start() < q[1]);
            check.holds("a case for: " + words, found || NO_CASE.matcher(words).matches());
        }
    }

    /** One object, the calls on it, and what holds for each call whatever it answers. */
    private static final class Play {
        private static final List<String> ACTS = Arrays.asList("addArm", "removeArm", "tie", "moveHome", "send", "load",
                "loadAll", "run", "set", "restore");
        private static final List<String> NAMES = Arrays.asList("UNKNOWN", "BAD_VALUE", "FULL", "NOT_POSSIBLE", "NONE");
        /** Longer runs are not played again for each act. */
        private static final int MOST_AGAIN = 60;

        private final Check check;
        private final LentArms x = new LentArms();
        private final List<Object[]> calls = new ArrayList<>();

        Play(Check check) {
            this.check = check;
        }

        void step(String name, String arguments, String due) {
            if (name.equals("text")) {
                text(arguments);
            } else if (name.equals("fault")) {
                text(arguments);
                call("loadAll", new int[0], -100 - Integer.parseInt(due));
            } else if (name.equals("allowed")) {
                allowed(inside(arguments), inside(due));
            } else if (name.equals("line")) {
                lineAt(Integer.parseInt(arguments), due.equals("empty") ? new String[0] : due.split(" "));
            } else if (arguments.endsWith("*")) {
                String[] all = due.split(" ");
                for (int what = 0; what < all.length; what++) {
                    call(name, numbers(arguments.replace("*", "" + what)), number(all[what]));
                }
            } else {
                call(name, numbers(arguments), due == null ? null : number(due));
            }
        }

        private static String inside(String quoted) {
            return quoted.substring(1, quoted.length() - 1);
        }

        private static int number(String word) {
            int named = NAMES.indexOf(word);
            if (named >= 0) {
                return -1 - named;
            }
            switch (word) {
                case "false": return 0;
                case "true": return 1;
                case "lowest": return Integer.MIN_VALUE;
                case "highest": return Integer.MAX_VALUE;
                default: return word.startsWith("'") ? word.charAt(1) : Integer.parseInt(word);
            }
        }

        private static int[] numbers(String arguments) {
            return arguments.isEmpty() ? new int[0]
                    : Arrays.stream(arguments.split(", ")).mapToInt(Play::number).toArray();
        }

        private void text(String quoted) {
            call("clearText", new int[0], null);
            for (char sign : inside(quoted).toCharArray()) {
                call("type", new int[] {sign}, null);
            }
        }

        /** Of all signs only those told may stand behind a text's beginning. */
        private void allowed(String beginning, String signs) {
            for (int sign = 0; sign < 1200; sign++) {
                LentArms y = new LentArms();
                Calls.text(y, beginning + (char) sign);
                boolean refused = y.loadAll() == -100 - beginning.length();
                check.holds("the sign " + sign + " behind " + beginning, refused == (signs.indexOf(sign) < 0));
            }
        }

        private void lineAt(int quay, String[] loads) {
            for (int place = 0; place < loads.length; place++) {
                String[] load = loads[place].split(":");
                call("waiting", new int[] {quay, place, 0}, Integer.parseInt(load[0]));
                call("waiting", new int[] {quay, place, 1}, Integer.parseInt(load[1]));
            }
            call("waiting", new int[] {quay, loads.length, 0}, LentArms.UNKNOWN);
            call("quay", new int[] {quay, 3}, loads.length);
        }

        /** Where no answer is told, it must be none below 0. */
        private void call(String name, int[] a, Integer due) {
            String words = (calls.size() + 1) + ". " + name + Arrays.toString(a);
            int[] before = Calls.told(x);
            int got = answer(x, name, a);
            int[] after = Calls.told(x);
            calls.add(new Object[] {name, a});
            if (due == null) {
                check.holds(words + " answered " + got + ", not below 0", got >= 0);
            } else {
                check.same(words, got, due);
            }
            boolean act = ACTS.contains(name) && got >= 0;
            if (act) {
                check.same("states after " + words, after[20], Math.min(4, before[20] + 1));
                checkUndo(words, before);
            } else if (got < 0 || !Arrays.asList("type", "clearText", "undo").contains(name)) {
                check.holds(words + " changes nothing", Arrays.equals(before, after));
            }
        }

        private void checkUndo(String words, int[] before) {
            if (calls.size() > MOST_AGAIN) {
                return;
            }
            LentArms y = new LentArms();
            for (Object[] call : calls) {
                answer(y, (String) call[0], (int[]) call[1]);
            }
            y.undo();
            int[] due = before.clone();
            due[20] = 0;
            due[21] = 0;
            check.holds("undo of " + words, Arrays.equals(Calls.state(y), due));
        }

        private static int answer(LentArms x, String name, int[] a) {
            switch (name) {
                case "addArm": return x.addArm(a[0], a[1] == 1);
                case "removeArm": return x.removeArm(a[0]);
                case "tie": return x.tie(a[0], a[1] == 1);
                case "moveHome": return x.moveHome(a[0], a[1]);
                case "send": return x.send(a[0], a[1]);
                case "load": return x.load(a[0], a[1]);
                case "loadAll": return x.loadAll();
                case "run": return x.run(a[0]);
                case "set": return x.set(a[0], a[1]);
                case "type": return x.type((char) a[0]);
                case "clearText": return x.clearText();
                case "undo": return x.undo();
                case "keep": return x.keep();
                case "restore": return x.restore();
                case "arm": return x.arm(a[0], a[1]);
                case "quay": return x.quay(a[0], a[1]);
                case "waiting": return x.waiting(a[0], a[1], a[2]);
                case "reason": return x.reason(a[0], a[1]);
                case "way": return x.way(a[0], a[1]);
                case "ifRun": return x.ifRun(a[0], a[1]);
                case "bestHome": return x.bestHome(a[0]);
                case "count": return x.count(a[0]);
                default: throw new IllegalArgumentException(name);
            }
        }
    }
}
