/** Promises 11 and 12: nodes and edges. */
final class DiagramTest {
    public static void main(String[] args) {
        diagrams();
        changes();
        Check.end();
    }

    private static void diagrams() {
        has("", 0, 0, 0, 0, 0);
        has("log;", 0, 0, 0, 0, 0);
        has("deny src 5 dst 6;", 0, 0, 0, 0, 0);
        has("allow src 0/1;log src 128-255;", 1, 0, 0, 0, 2);
        has("allow src 0/1;allow;", 0, 0, 0, 0, 0);
        has("allow proto 2;", 0, 0, 0, 1, 3);
        has("allow proto 0;log proto 1;allow proto 2;", 0, 0, 0, 1, 4);
        has("allow port 0;", 0, 0, 1, 0, 2);
        has("allow dst 255;", 0, 1, 0, 0, 2);
        // Rows that are alike but apart are edges of their own.
        has("log src 3-4;allow src 1-6;", 1, 0, 0, 0, 5);
        // Two rules that say the same side by side make one row.
        has("allow src 3-4;allow src 5-6;", 1, 0, 0, 0, 3);
        // A table that is come to on two ways is one node.
        has("allow src 1 port 80;allow src 9 port 80;", 1, 0, 1, 0, 5 + 3);
        // So is one that other rules make.
        has("allow src 1 port 80;allow src 9 port 80;allow src 9 port 80-80;", 1, 0, 1, 0, 5 + 3);
        has("allow src 1 port 80;log src 9 port 80;", 1, 0, 2, 0, 5 + 3 + 3);
        has("allow src 1 port 0-9;allow src 2 port 0-4;allow src 2 port 5-9;", 1, 0, 1, 0, 3 + 2);
        // A table that doesn't depend on the field ahead is no node of that one.
        has("allow src 10-20 port 80;deny dst 0/4;log;", 1, 2, 2, 0, 13);
        has("allow src 1 dst 2 port 3 proto 1;", 1, 1, 1, 1, 12);
        has("allow src 255 dst 255 port 1023 proto 3;", 1, 1, 1, 1, 8);
        has("deny src 1 dst 2 port 3 proto 1;log;", 1, 1, 1, 1, 12);
        // A rule that never comes to anything changes no diagram.
        has("allow src 4;deny src 4 port 9;", 1, 0, 0, 0, 3);
    }

    private static void changes() {
        RuleDiagram x = Check.with("allow src 4;log dst 4;", "log proto 1;");
        shows("two rules", x, 0, 1, 1, 0, 0, 3 + 3);
        shows("the other list", x, 1, 0, 0, 0, 1, 3);
        x.swap(0, 0);
        shows("two rules swapped", x, 0, 1, 2, 0, 0, 3 + 3 + 3);
        x.remove(0, 0);
        shows("one rule", x, 0, 1, 0, 0, 0, 3);
        Check.read(x, 0, "allow;");
        shows("one rule that is told no more", x, 0, 0, 0, 0, 0, 0);
        shows("the other list still", x, 1, 0, 0, 0, 1, 3);
    }

    private static void has(String text, int sources, int targets, int ports, int protocols, int edges) {
        shows("'" + text + "'", Check.with(text), 0, sources, targets, ports, protocols, edges);
        shows("'" + text + "' in list 1", Check.with("", text), 1, sources, targets, ports, protocols, edges);
    }

    private static void shows(String what, RuleDiagram x, int list, int... due) {
        for (int field = 0; field < 4; field++) {
            Check.same("nodes of field " + field + " of " + what, x.nodes(list, field), due[field]);
        }
        Check.same("edges of " + what, x.edges(list), due[4]);
    }
}
