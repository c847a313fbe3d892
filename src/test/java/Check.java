/** What the tests share: they count what is not as due, and end with exit code 1 if anything was not. */
final class Check {
    static final Class<?> BOUNDS = IndexOutOfBoundsException.class;
    static final Class<?> ARGUMENT = IllegalArgumentException.class;
    static final Class<?> UNSUPPORTED = UnsupportedOperationException.class;

    /** A call of the program whose exception is looked at. */
    interface Call {
        void run();
    }

    private static int calls = 0;
    private static int wrong = 0;

    private Check() {
    }

    static void same(String what, Object got, Object due) {
        calls++;
        if (!got.equals(due)) {
            wrong++;
            System.out.println(what + " is " + got + ", due is " + due);
        }
    }

    static void fails(String what, Class<?> due, Call call) {
        String got = "nothing";
        try {
            call.run();
        } catch (RuntimeException e) {
            got = e.getClass().getName();
        }
        same("what " + what + " throws", got, due.getName());
    }

    static void end() {
        System.out.println(calls + " answers, " + wrong + " not as due");
        if (wrong != 0 || calls == 0) {
            System.exit(1);
        }
    }

    static int four(String signs) {
        int four = 0;
        for (int i = 0; i < signs.length(); i++) {
            four |= signs.charAt(i) << 8 * i;
        }
        return four;
    }

    /** Puts a text, four signs a call. */
    static void put(RuleDiagram x, String text) {
        for (int i = 0; i < text.length(); i += 4) {
            x.put(four(text.substring(i, Math.min(i + 4, text.length()))));
        }
    }

    static int read(RuleDiagram x, int list, String text) {
        put(x, text);
        return x.read(list);
    }

    /** An object whose lists hold the rules of two texts. */
    static RuleDiagram with(String text0, String text1) {
        RuleDiagram x = new RuleDiagram();
        if (read(x, 0, text0) < 0 || read(x, 1, text1) < 0) {
            throw new IllegalStateException("the test's own text has a fault: " + text0 + " or " + text1);
        }
        return x;
    }

    static RuleDiagram with(String text0) {
        return with(text0, "");
    }

    /** A list's rules with all their numbers, to see that a call changed them as it should, or not at all. */
    static String show(RuleDiagram x, int list) {
        StringBuilder shown = new StringBuilder();
        for (int i = 0; i < x.rules(list); i++) {
            for (int what = 0; what < 9; what++) {
                shown.append(x.rule(list, i, what)).append(what == 8 ? ';' : ' ');
            }
        }
        return shown.toString();
    }

    static String verdicts(RuleDiagram x, int list) {
        StringBuilder shown = new StringBuilder();
        for (int i = 0; i < x.rules(list); i++) {
            shown.append(x.rule(list, i, 0));
        }
        return shown.toString();
    }

    static String connections(RuleDiagram x) {
        StringBuilder shown = new StringBuilder();
        for (int k = 0; k < 4; k++) {
            for (int f = 0; f < 4; f++) {
                shown.append(x.connection(k, f)).append(f == 3 ? ';' : ' ');
            }
        }
        return shown.toString();
    }
}
