import java.io.IOException;
import java.nio.file.Files;
import java.nio.file.Path;

/** What the tests share: they count what is not as due, and end with exit code 1 if anything was not. */
final class Check {
    static final Class<?> BOUNDS = IndexOutOfBoundsException.class;
    static final Class<?> ARGUMENT = IllegalArgumentException.class;
    static final Class<?> UNSUPPORTED = UnsupportedOperationException.class;
    static final int MIN = Integer.MIN_VALUE;
    static final int MAX = Integer.MAX_VALUE;
    static final int ALL_PACKETS = 1 << 28;

    private static final Path DOCUMENT = Path.of("..", "shared", "DOC.md");

    /** A call of the program whose exception is looked at. */
    interface Call {
        void run();
    }

    private static int calls = 0;
    private static int wrong = 0;
    private static String document = "";
    private static String sentence = "";

    private Check() {
    }

    static void same(String what, Object got, Object due) {
        calls++;
        if (!got.equals(due)) {
            wrong++;
            System.out.println(what + " is " + got + ", due is " + due + sentence);
        }
    }

    /** Says which words of the document the answers behind this call are looked at for; they must stand there. */
    static void sentence(String words) {
        sentence = " [" + words + "]";
        same("the document has these words", document().contains(words), true);
    }

    private static String document() {
        if (document.isEmpty()) {
            try {
                document = Files.readString(DOCUMENT).replaceAll("\\s+", " ");
            } catch (IOException e) {
                throw new IllegalStateException("the tests are run where " + DOCUMENT + " can be read", e);
            }
        }
        return document;
    }

    static void fails(String what, Class<?> due, Call call) {
        String got = "nothing";
        try {
            call.run();
        } catch (RuntimeException e) {
            got = e.getClass().getName();
        }
        same("what " + what + " throws", got, due.getName());
    }

    static void end() {
        System.out.println(calls + " answers, " + wrong + " not as due");
        if (wrong != 0 || calls == 0) {
            System.exit(1);
        }
    }

    static int four(String signs) {
        int four = 0;
        for (int i = 0; i < signs.length(); i++) {
            four |= signs.charAt(i) << 8 * i;
        }
        return four;
    }

    /** Puts a text, four signs a call. */
    static void put(RuleDiagram x, String text) {
        for (int i = 0; i < text.length(); i += 4) {
            x.put(four(text.substring(i, Math.min(i + 4, text.length()))));
        }
    }

    static int read(RuleDiagram x, int list, String text) {
        put(x, text);
        return x.read(list);
    }

    /** An object whose lists hold the rules of two texts. */
    static RuleDiagram with(String text0, String text1) {
        RuleDiagram x = new RuleDiagram();
        if (read(x, 0, text0) < 0 || read(x, 1, text1) < 0) {
            throw new IllegalStateException("the test's own text has a fault: " + text0 + " or " + text1);
        }
        return x;
    }

    static RuleDiagram with(String text0) {
        return with(text0, "");
    }

    /** A list's rules with all their numbers, asked for once: an object is good for no more than 512 calls. */
    static int[][] rulesOf(RuleDiagram x, int list) {
        int[][] rules = new int[x.rules(list)][9];
        for (int i = 0; i < rules.length; i++) {
            for (int what = 0; what < 9; what++) {
                rules[i][what] = x.rule(list, i, what);
            }
        }
        return rules;
    }

    /** A list's rules with all their numbers, to see that a call changed them as it should, or not at all. */
    static String show(RuleDiagram x, int list) {
        StringBuilder shown = new StringBuilder();
        for (int[] rule : rulesOf(x, list)) {
            for (int what = 0; what < 9; what++) {
                shown.append(rule[what]).append(what == 8 ? ';' : ' ');
            }
        }
        return shown.toString();
    }

    static String verdicts(RuleDiagram x, int list) {
        StringBuilder shown = new StringBuilder();
        for (int[] rule : rulesOf(x, list)) {
            shown.append(rule[0]);
        }
        return shown.toString();
    }

    static String connections(RuleDiagram x) {
        StringBuilder shown = new StringBuilder();
        for (int k = 0; k < 4; k++) {
            for (int f = 0; f < 4; f++) {
                shown.append(x.connection(k, f)).append(f == 3 ? ';' : ' ');
            }
        }
        return shown.toString();
    }

    /** What is seen of an object without changing it: its rules, its connections, and how many signs its text has. */
    static String look(RuleDiagram x) {
        return show(x, 0) + "|" + show(x, 1) + "|" + connections(x) + "|" + x.put(0);
    }

    /** A text is read into a new object as rules with these numbers. */
    static void reads(String text, int due, String rules) {
        RuleDiagram x = new RuleDiagram();
        same("read of '" + text + "'", read(x, 1, text), due);
        same("rules of '" + text + "'", show(x, 1), rules);
        same("signs left of '" + text + "'", x.put(0), 0);
    }

    /** A text has its fault at a place, and changes nothing but that it is empty then. */
    static void faulty(String text, int fault) {
        RuleDiagram x = with("allow src 1;", "deny;log;");
        x.pass(0, 1, 2, 3, 0);
        String before = look(x);
        same("read of '" + text + "'", read(x, 0, text), -1 - fault);
        same("what '" + text + "' leaves", look(x), before);
    }

    static int verdict(RuleDiagram x, int list, int[] p) {
        return x.verdict(list, p[0], p[1], p[2], p[3]);
    }

    static int first(RuleDiagram x, int list, int[] p) {
        return x.first(list, p[0], p[1], p[2], p[3]);
    }

    static int pass(RuleDiagram x, int list, int[] p) {
        return x.pass(list, p[0], p[1], p[2], p[3]);
    }

    static int[] packet(int source, int target, int port, int protocol) {
        return new int[] {source, target, port, protocol};
    }
}
