/** Promises 17 and 18: pass and connection. */
final class GateTest {
    private static final String FREE = "-1 -1 -1 -1;";

    public static void main(String[] args) {
        verdicts();
        answers();
        sameBothWays();
        oldestGoes();
        knownWithoutRules();
        Check.end();
    }

    private static void verdicts() {
        RuleDiagram x = Check.with("allow src 1;log src 2;deny src 3;", "log src 1;");
        passes(x, 0, "3 9 9 3", 0, FREE.repeat(4));
        passes(x, 0, "4 9 9 3", 0, FREE.repeat(4));
        passes(x, 0, "1 9 900 3", 1, "1 9 900 3;" + FREE.repeat(3));
        passes(x, 0, "2 9 900 3", 2, "1 9 900 3;2 9 900 3;" + FREE.repeat(2));
        passes(x, 1, "1 200 5 0", 2, "1 9 900 3;2 9 900 3;1 200 5 0;" + FREE);
        passes(x, 1, "2 200 5 0", 0, "1 9 900 3;2 9 900 3;1 200 5 0;" + FREE);
    }

    private static void answers() {
        RuleDiagram x = Check.with("allow src 1;log src 2;");
        passes(x, 0, "9 1 7 2", 0, FREE.repeat(4));
        passes(x, 0, "1 9 7 2", 1, "1 9 7 2;" + FREE.repeat(3));
        passes(x, 0, "1 9 7 2", 3, "1 9 7 2;" + FREE.repeat(3));
        passes(x, 0, "9 1 7 2", 3, "1 9 7 2;" + FREE.repeat(3));
        passes(x, 0, "9 1 8 2", 0, "1 9 7 2;" + FREE.repeat(3));
        passes(x, 0, "9 1 7 3", 0, "1 9 7 2;" + FREE.repeat(3));
        passes(x, 0, "9 2 7 2", 0, "1 9 7 2;" + FREE.repeat(3));
        passes(x, 0, "8 1 7 2", 0, "1 9 7 2;" + FREE.repeat(3));
        passes(x, 0, "1 9 7 1", 1, "1 9 7 2;1 9 7 1;" + FREE.repeat(2));
        passes(x, 0, "2 1 7 1", 2, "1 9 7 2;1 9 7 1;2 1 7 1;" + FREE);
        passes(x, 0, "1 2 7 1", 3, "1 9 7 2;1 9 7 1;2 1 7 1;" + FREE);
        // An answer makes its connection the newest one and leaves it as it was.
        passes(x, 0, "9 1 7 2", 3, "1 9 7 1;2 1 7 1;1 9 7 2;" + FREE);
        passes(x, 0, "2 1 7 1", 3, "1 9 7 1;1 9 7 2;2 1 7 1;" + FREE);
    }

    private static void sameBothWays() {
        RuleDiagram x = Check.with("allow;");
        passes(x, 0, "5 5 5 1", 1, "5 5 5 1;" + FREE.repeat(3));
        passes(x, 0, "5 5 5 1", 3, "5 5 5 1;" + FREE.repeat(3));
        passes(x, 0, "255 255 1023 3", 1, "5 5 5 1;255 255 1023 3;" + FREE.repeat(2));
        passes(x, 0, "255 0 1023 3", 1, "5 5 5 1;255 255 1023 3;255 0 1023 3;" + FREE);
        passes(x, 0, "0 0 0 0", 1, "5 5 5 1;255 255 1023 3;255 0 1023 3;0 0 0 0;");
    }

    private static void oldestGoes() {
        RuleDiagram x = Check.with("allow dst 9;");
        passes(x, 0, "1 9 0 0", 1, "1 9 0 0;" + FREE.repeat(3));
        passes(x, 0, "2 9 0 0", 1, "1 9 0 0;2 9 0 0;" + FREE.repeat(2));
        passes(x, 0, "3 9 0 0", 1, "1 9 0 0;2 9 0 0;3 9 0 0;" + FREE);
        passes(x, 0, "4 9 0 0", 1, "1 9 0 0;2 9 0 0;3 9 0 0;4 9 0 0;");
        passes(x, 0, "5 9 0 0", 1, "2 9 0 0;3 9 0 0;4 9 0 0;5 9 0 0;");
        passes(x, 0, "9 1 0 0", 0, "2 9 0 0;3 9 0 0;4 9 0 0;5 9 0 0;");
        passes(x, 0, "9 2 0 0", 3, "3 9 0 0;4 9 0 0;5 9 0 0;2 9 0 0;");
        passes(x, 0, "4 9 0 0", 3, "3 9 0 0;5 9 0 0;2 9 0 0;4 9 0 0;");
        passes(x, 0, "4 9 0 0", 3, "3 9 0 0;5 9 0 0;2 9 0 0;4 9 0 0;");
        passes(x, 0, "6 9 0 0", 1, "5 9 0 0;2 9 0 0;4 9 0 0;6 9 0 0;");
        passes(x, 0, "6 8 0 0", 0, "5 9 0 0;2 9 0 0;4 9 0 0;6 9 0 0;");
    }

    private static void knownWithoutRules() {
        RuleDiagram x = Check.with("allow;");
        x.pass(0, 1, 2, 3, 1);
        passes(x, 1, "2 1 3 1", 3, "1 2 3 1;" + FREE.repeat(3));
        x.remove(0, 0);
        passes(x, 0, "1 2 3 1", 3, "1 2 3 1;" + FREE.repeat(3));
        passes(x, 0, "1 2 4 1", 0, "1 2 3 1;" + FREE.repeat(3));
        Check.same("verdict of a known packet", x.verdict(0, 1, 2, 3, 1), 0);
    }

    private static void passes(RuleDiagram x, int list, String packet, int due, String connections) {
        String[] p = packet.split(" ");
        int got = x.pass(list, Integer.parseInt(p[0]), Integer.parseInt(p[1]), Integer.parseInt(p[2]), Integer.parseInt(p[3]));
        Check.same("pass of " + packet, got, due);
        Check.same("connections behind " + packet, Check.connections(x), connections);
    }
}
