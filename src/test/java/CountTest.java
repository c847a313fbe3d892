/** Promises 10, 15 and 16: count, used, prune. */
final class CountTest {
    private static final int ALL = 1 << 28;

    public static void main(String[] args) {
        count();
        used();
        prune();
        pruneKeepsOrder();
        Check.end();
    }

    private static void count() {
        counts("", ALL, 0, 0);
        counts("log;", 0, 0, ALL);
        counts("log;allow;", 0, 0, ALL);
        counts("deny;allow;", ALL, 0, 0);
        counts("allow src 7 dst 7 port 7 proto 3;", ALL - 1, 1, 0);
        counts("allow src 0/1;", ALL / 2, ALL / 2, 0);
        counts("allow src 0/1;log port 0/1;", ALL / 4, ALL / 2, ALL / 4);
        counts("allow src 10-20 port 80;deny dst 0/4;log;", 16776512, 11264, 251647680);
        counts("allow src 255 dst 255 port 1023 proto 3;log src 0 dst 0 port 0 proto 0;", ALL - 2, 1, 1);
        RuleDiagram x = Check.with("allow;", "log;");
        Check.same("count of list 1", x.count(1, 2), ALL);
        x.remove(1, 0);
        Check.same("count behind remove", x.count(1, 0), ALL);
        Check.same("count of list 0", x.count(0, 1), ALL);
    }

    private static void used() {
        RuleDiagram x = Check.with("allow src 0/1;log src 0/2;log src 0-191;deny;log;", "allow src 1 dst 1;");
        int[] due = {ALL / 2, 0, ALL / 4, ALL / 4, 0};
        for (int i = 0; i < due.length; i++) {
            Check.same("used(0, " + i + ")", x.used(0, i), due[i]);
        }
        Check.same("used(1, 0)", x.used(1, 0), 4096);
        x.swap(0, 0);
        Check.same("used(0, 0) behind swap", x.used(0, 0), ALL / 4);
        Check.same("used(0, 1) behind swap", x.used(0, 1), ALL / 4);
        RuleDiagram joint = Check.with("allow proto 0-1;log proto 2-3;deny port 5;");
        Check.same("a rule that two others cover together", joint.used(0, 2), 0);
    }

    private static void prune() {
        RuleDiagram x = Check.with("log src 1;log src 1;allow src 1;deny;allow;", "deny;allow;");
        Check.same("prune", x.prune(0), 3);
        Check.same("left", Check.show(x, 0), Check.show(Check.with("log src 1;deny;"), 0));
        Check.same("prune again", x.prune(0), 0);
        Check.same("the other list", x.rules(1), 2);
        Check.same("prune of the other list", x.prune(1), 1);
        Check.same("prune of no rules", new RuleDiagram().prune(0), 0);
        Check.same("a rule that changes nothing but is used", Check.with("deny;").prune(0), 0);
        Check.same("eight alike", Check.with("log;".repeat(8)).prune(0), 7);
    }

    private static void pruneKeepsOrder() {
        RuleDiagram x = Check.with("allow src 0/1;log src 5;deny src 128-200;log src 0-200;allow;log;deny;");
        int before = x.count(0, 1);
        Check.same("prune", x.prune(0), 4);
        Check.same("left", Check.show(x, 0), Check.show(Check.with("allow src 0/1;deny src 128-200;allow;"), 0));
        Check.same("count", x.count(0, 1), before);
        Check.same("room behind prune", Check.read(x, 0, "log;".repeat(5)), 5);
        Check.same("rules behind prune", Check.verdicts(x, 0), "10122222");
    }

    private static void counts(String text, int deny, int allow, int log) {
        RuleDiagram x = Check.with(text);
        Check.same("count 0 of '" + text + "'", x.count(0, 0), deny);
        Check.same("count 1 of '" + text + "'", x.count(0, 1), allow);
        Check.same("count 2 of '" + text + "'", x.count(0, 2), log);
    }
}
