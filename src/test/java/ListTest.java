/** Promises 4 to 9: remove, swap, rules, rule, verdict, first. */
final class ListTest {
    private static final int MIN = Integer.MIN_VALUE;
    private static final int MAX = Integer.MAX_VALUE;
    private static final String THREE = "deny src 1;allow dst 2;log port 3;";

    public static void main(String[] args) {
        remove();
        swap();
        rules();
        rule();
        verdictAndFirst();
        edgesOfRanges();
        Check.end();
    }

    private static void remove() {
        RuleDiagram x = Check.with(THREE, "log;");
        x.remove(0, 1);
        Check.same("left of three", Check.show(x, 0), Check.show(Check.with("deny src 1;log port 3;"), 0));
        Check.same("left of the other list", x.rules(1), 1);
        String shown = Check.show(x, 0);
        Check.fails("remove(0, 2)", Check.ARGUMENT, () -> x.remove(0, 2));
        Check.fails("remove(0, -1)", Check.ARGUMENT, () -> x.remove(0, -1));
        Check.fails("remove(0, MAX)", Check.ARGUMENT, () -> x.remove(0, MAX));
        Check.fails("remove(0, MIN)", Check.ARGUMENT, () -> x.remove(0, MIN));
        Check.fails("remove(2, 0)", Check.BOUNDS, () -> x.remove(2, 0));
        Check.fails("remove(-1, 9)", Check.BOUNDS, () -> x.remove(-1, 9));
        Check.same("left behind faults", Check.show(x, 0), shown);
        x.remove(0, 0);
        x.remove(0, 0);
        Check.same("left of none", x.rules(0), 0);
        Check.fails("remove of an empty list", Check.ARGUMENT, () -> x.remove(0, 0));
        Check.same("eight again", Check.read(x, 0, "log;".repeat(4) + "deny;".repeat(4)), 8);
        x.remove(0, 7);
        x.remove(0, 0);
        Check.same("six of eight", Check.verdicts(x, 0), "222000");
        Check.same("two more", Check.read(x, 0, "allow;log;"), 2);
        Check.same("eight of two texts", Check.verdicts(x, 0), "22200012");
    }

    private static void swap() {
        RuleDiagram x = Check.with(THREE, "log;deny;");
        x.swap(0, 0);
        Check.same("swap(0, 0)", Check.show(x, 0), Check.show(Check.with("allow dst 2;deny src 1;log port 3;"), 0));
        x.swap(0, 1);
        Check.same("swap(0, 1)", Check.show(x, 0), Check.show(Check.with("allow dst 2;log port 3;deny src 1;"), 0));
        Check.same("the other list", Check.verdicts(x, 1), "20");
        String shown = Check.show(x, 0);
        Check.fails("swap(0, 2)", Check.ARGUMENT, () -> x.swap(0, 2));
        Check.fails("swap(0, 3)", Check.ARGUMENT, () -> x.swap(0, 3));
        Check.fails("swap(0, -1)", Check.ARGUMENT, () -> x.swap(0, -1));
        Check.fails("swap(0, MAX)", Check.ARGUMENT, () -> x.swap(0, MAX));
        Check.fails("swap(0, MIN)", Check.ARGUMENT, () -> x.swap(0, MIN));
        Check.fails("swap(2, 0)", Check.BOUNDS, () -> x.swap(2, 0));
        Check.fails("swap(-1, -1)", Check.BOUNDS, () -> x.swap(-1, -1));
        Check.same("behind faults", Check.show(x, 0), shown);
        RuleDiagram full = Check.with("log;".repeat(7) + "deny;");
        full.swap(0, 6);
        Check.same("swap of the last two of eight", Check.verdicts(full, 0), "22222202");
        Check.fails("swap of the last of eight", Check.ARGUMENT, () -> full.swap(0, 7));
        Check.fails("swap of an empty list", Check.ARGUMENT, () -> full.swap(1, 0));
    }

    private static void rules() {
        RuleDiagram x = Check.with(THREE, "log;deny;");
        Check.same("rules(0)", x.rules(0), 3);
        Check.same("rules(1)", x.rules(1), 2);
    }

    private static void rule() {
        RuleDiagram x = Check.with("deny;log src 1-2 dst 3-4 port 5-6 proto 0-1;");
        int[] due = {2, 1, 2, 3, 4, 5, 6, 0, 1};
        for (int what = 0; what < due.length; what++) {
            Check.same("rule(0, 1, " + what + ")", x.rule(0, 1, what), due[what]);
        }
    }

    private static void verdictAndFirst() {
        RuleDiagram x = Check.with("allow src 10-20 port 80;deny dst 0/4;log proto 1;", "log dst 7;");
        judges(x, 0, new int[] {15, 3, 80, 1}, 1, 0);
        judges(x, 0, new int[] {15, 3, 81, 1}, 0, 1);
        judges(x, 0, new int[] {15, 16, 81, 1}, 2, 2);
        judges(x, 0, new int[] {15, 16, 81, 2}, 0, RuleDiagram.NONE);
        judges(x, 1, new int[] {15, 7, 80, 1}, 2, 0);
        judges(x, 1, new int[] {7, 6, 7, 1}, 0, RuleDiagram.NONE);
        x.swap(0, 0);
        judges(x, 0, new int[] {15, 3, 80, 1}, 0, 0);
        x.remove(0, 0);
        judges(x, 0, new int[] {15, 3, 80, 1}, 1, 0);
        judges(x, 0, new int[] {15, 3, 81, 1}, 2, 1);
    }

    private static void edgesOfRanges() {
        RuleDiagram x = Check.with("allow src 1-3 dst 4-6 port 7-9 proto 1-2;");
        int[] least = {1, 4, 7, 1};
        int[] greatest = {3, 6, 9, 2};
        judges(x, 0, least, 1, 0);
        judges(x, 0, greatest, 1, 0);
        for (int f = 0; f < 4; f++) {
            int[] below = least.clone();
            below[f]--;
            judges(x, 0, below, 0, RuleDiagram.NONE);
            int[] above = greatest.clone();
            above[f]++;
            judges(x, 0, above, 0, RuleDiagram.NONE);
        }
        judges(Check.with("log;"), 0, new int[] {255, 255, 1023, 3}, 2, 0);
        judges(Check.with("log;"), 0, new int[] {0, 0, 0, 0}, 2, 0);
    }

    private static void judges(RuleDiagram x, int list, int[] p, int verdict, int first) {
        String packet = "(" + list + ", " + p[0] + ", " + p[1] + ", " + p[2] + ", " + p[3] + ")";
        Check.same("verdict" + packet, x.verdict(list, p[0], p[1], p[2], p[3]), verdict);
        Check.same("first" + packet, x.first(list, p[0], p[1], p[2], p[3]), first);
    }
}
