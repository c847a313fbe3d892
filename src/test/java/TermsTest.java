/** "Terms", all but the texts: each sentence that names a bound of packets, lists, rules, diagrams and the gate. */
final class TermsTest {
    private static final int[] GREATEST = {255, 255, 1023, 3};
    private static final String[] NAMES = {"src", "dst", "port", "proto"};
    private static final String FREE = "-1 -1 -1 -1;";

    public static void main(String[] args) {
        fieldsOfPackets();
        twoLists();
        eightRules();
        threeVerdicts();
        ranges();
        allFourFields();
        firstRuleThatMatches();
        tables();
        nodesAreNotAlike();
        alikeTablesAreOneNode();
        edges();
        fourConnections();
        connectionsAreDifferent();
        none();
        Check.end();
    }

    private static void fieldsOfPackets() {
        Check.sentence("0 source and 1 target (0 .. 255, eight bits), 2 port (0 .. 1023, ten bits), 3 protocol (0 .. 3, two bits)");
        for (int field = 0; field < 4; field++) {
            RuleDiagram x = Check.with("allow;", "log;");
            for (int value : new int[] {0, 1, GREATEST[field] - 1, GREATEST[field]}) {
                int[] packet = withValue(field, value);
                Check.same("verdict of field " + field + " = " + value, Check.verdict(x, 0, packet), 1);
                Check.same("first of field " + field + " = " + value, Check.first(x, 1, packet), 0);
                Check.same("pass of field " + field + " = " + value, Check.pass(new RuleDiagram(), 0, packet), 0);
            }
            for (int value : new int[] {-1, GREATEST[field] + 1, Check.MIN, Check.MAX}) {
                int[] packet = withValue(field, value);
                String what = " with field " + field + " = " + value;
                Check.fails("verdict" + what, Check.ARGUMENT, () -> Check.verdict(x, 0, packet));
                Check.fails("first" + what, Check.ARGUMENT, () -> Check.first(x, 1, packet));
                Check.fails("pass" + what, Check.ARGUMENT, () -> Check.pass(x, 0, packet));
            }
            Check.same("connections", Check.connections(x), FREE.repeat(4));
        }
        RuleDiagram x = Check.with("log;");
        x.pass(0, 255, 254, 1023, 3);
        Check.same("the fields by their numbers", Check.connections(x), "255 254 1023 3;" + FREE.repeat(3));
    }

    private static void twoLists() {
        Check.sentence("There are two LISTS, 0 and 1");
        RuleDiagram x = Check.with("allow src 1;deny;", "log dst 1;");
        Check.same("rules", x.rules(0) + " " + x.rules(1), "2 1");
        Check.same("list 0", Check.show(x, 0), "1 1 1 0 255 0 1023 0 3;0 0 255 0 255 0 1023 0 3;");
        Check.same("list 1", Check.show(x, 1), "2 0 255 1 1 0 1023 0 3;");
        for (int list : new int[] {-1, 2, Check.MIN, Check.MAX}) {
            Check.fails("rules(" + list + ")", Check.BOUNDS, () -> x.rules(list));
        }
    }

    private static void eightRules() {
        Check.sentence("of at most eight RULES each, numbered from 0");
        RuleDiagram x = new RuleDiagram();
        for (int list = 0; list < 2; list++) {
            for (int i = 0; i < 8; i++) {
                Check.same("rule " + i, Check.read(x, list, "log src " + (10 * list + i) + ";"), 1);
                Check.same("rules", x.rules(list), i + 1);
            }
            Check.same("rule 8", Check.read(x, list, "log src 8;"), -1000);
            Check.same("rules", x.rules(list), 8);
        }
        for (int list = 0; list < 2; list++) {
            for (int i = 0; i < 8; i++) {
                Check.same("source of rule " + i, x.rule(list, i, 1), 10 * list + i);
                Check.same("first", x.first(list, 10 * list + i, 0, 0, 0), i);
            }
        }
        Check.fails("rule 8 of 8", Check.ARGUMENT, () -> x.rule(0, 8, 0));
        Check.fails("rule -1", Check.ARGUMENT, () -> x.rule(0, -1, 0));
    }

    private static void threeVerdicts() {
        Check.sentence("A rule has a VERDICT (0 deny, 1 allow, 2 log)");
        RuleDiagram x = Check.with("deny src 0;allow src 1;log src 2;");
        for (int i = 0; i < 3; i++) {
            Check.same("verdict of rule " + i, x.rule(0, i, 0), i);
            Check.same("verdict of its packets", x.verdict(0, i, 9, 9, 0), i);
            Check.same("count of its verdict", x.count(0, i) > 0, true);
        }
        Check.fails("verdict 3", Check.ARGUMENT, () -> x.count(0, 3));
        Check.fails("verdict -1", Check.ARGUMENT, () -> x.count(0, -1));
    }

    private static void ranges() {
        Check.sentence("and for each field a RANGE, from a least to a greatest value");
        for (int field = 0; field < 4; field++) {
            for (int least = 0; least <= 2; least++) {
                rangeOf(field, least, least);
                rangeOf(field, least, GREATEST[field]);
                rangeOf(field, least, GREATEST[field] - 1);
            }
            rangeOf(field, GREATEST[field], GREATEST[field]);
        }
    }

    private static void rangeOf(int field, int least, int greatest) {
        RuleDiagram x = Check.with("log " + NAMES[field] + " " + least + "-" + greatest + ";");
        int[] values = {0, least - 1, least, least + 1, greatest - 1, greatest, greatest + 1, GREATEST[field]};
        for (int value : values) {
            if (value >= 0 && value <= GREATEST[field]) {
                int due = value >= least && value <= greatest ? 0 : RuleDiagram.NONE;
                String what = "first of field " + field + " = " + value + " in " + least + "-" + greatest;
                Check.same(what, Check.first(x, 0, withValue(field, value)), due);
            }
        }
        int packets = Check.ALL_PACKETS / (GREATEST[field] + 1) * (greatest - least + 1);
        Check.same("packets of field " + field + " in " + least + "-" + greatest, x.used(0, 0), packets);
    }

    private static void allFourFields() {
        Check.sentence("it MATCHES a packet if all four fields lie in their ranges");
        RuleDiagram x = Check.with("log src 5-6 dst 7-8 port 9-10 proto 1-2;");
        for (int out = 0; out < 16; out++) {
            int[] packet = {5, 8, 9, 2};
            for (int field = 0; field < 4; field++) {
                packet[field] = (out >> field & 1) == 1 ? 0 : packet[field];
            }
            Check.same("first with fields out of range " + out, Check.first(x, 0, packet), out == 0 ? 0 : RuleDiagram.NONE);
        }
    }

    private static void firstRuleThatMatches() {
        Check.sentence("A list's verdict of a packet is that of the first rule that matches; 0 if none does.");
        RuleDiagram x = Check.with("log src 1;allow src 1-2;deny src 1-3;allow src 4;");
        int[] due = {0, 2, 1, 0, 1, 0};
        for (int source = 0; source < due.length; source++) {
            Check.same("verdict of source " + source, x.verdict(0, source, 0, 0, 0), due[source]);
        }
        Check.same("verdict by no rules", x.verdict(1, 1, 0, 0, 0), 0);
        RuleDiagram full = Check.with("log src 1;".repeat(7) + "allow;");
        Check.same("the first of eight", full.verdict(0, 1, 0, 0, 0), 2);
        Check.same("the last of eight", full.verdict(0, 2, 0, 0, 0), 1);
    }

    private static void tables() {
        Check.sentence("for field f and values of the fields ahead of it, the verdicts of all values of the fields from f on are a TABLE of f");
        // One table of source; of each other field as many as the values ahead make different.
        drawn("log src 9 dst 9 port 9 proto 2;", "1 1 1 1", 3 + 3 + 3 + 3);
        drawn("log src 0 dst 0 port 0 proto 0;", "1 1 1 1", 2 + 2 + 2 + 2);
        drawn("log src 255 dst 255 port 1023 proto 3;", "1 1 1 1", 2 + 2 + 2 + 2);
        drawn("log src 9 proto 2;allow dst 9 proto 1;", "1 2 0 3", 3 + 3 + 3 + 3 + 3 + 4);
    }

    private static void nodesAreNotAlike() {
        Check.sentence("A NODE of f is such a table that isn't alike for all values of f");
        drawn("", "0 0 0 0", 0);
        drawn("deny src 3;", "0 0 0 0", 0);
        drawn("allow;", "0 0 0 0", 0);
        drawn("allow src 3;allow;", "0 0 0 0", 0);
        drawn("allow src 0-254;allow src 255;", "0 0 0 0", 0);
        drawn("allow src 0-254;", "1 0 0 0", 2);
        drawn("allow dst 3;", "0 1 0 0", 3);
        drawn("allow port 3;", "0 0 1 0", 3);
        drawn("allow proto 2;", "0 0 0 1", 3);
    }

    private static void alikeTablesAreOneNode() {
        Check.sentence("alike tables are one node");
        drawn("log src 1 dst 5;log src 9 dst 5;", "1 1 0 0", 5 + 3);
        drawn("log src 1 dst 5;log src 9 dst 6;", "1 2 0 0", 5 + 3 + 3);
        drawn("log src 1 dst 5;allow src 9 dst 5;", "1 2 0 0", 5 + 3 + 3);
        // Alike, though other rules make it so.
        drawn("log src 1 dst 4-7;log src 9 dst 4/7;log src 9 dst 6-7;", "1 1 0 0", 5 + 3);
        drawn("log src 1 dst 4-7;deny src 9 dst 0-3;deny src 9 dst 8-255;log src 9;", "1 1 0 0", 5 + 3);
        // Alike behind different fields ahead.
        drawn("log src 1 dst 5 port 7;log src 2 dst 6 port 7;", "1 2 1 0", 4 + 3 + 3 + 3);
    }

    private static void edges() {
        Check.sentence("A node's EDGES: the least number of rows of values of f, one behind the other, in each of which what is left of the table is alike.");
        drawn("log src 0;", "1 0 0 0", 2);
        drawn("log src 255;", "1 0 0 0", 2);
        drawn("log src 1;", "1 0 0 0", 3);
        drawn("log src 254;", "1 0 0 0", 3);
        drawn("log proto 0;allow proto 1;log proto 2;allow proto 3;", "0 0 0 1", 4);
        // Rows that other rows part are counted singly, though they are alike.
        drawn("log src 1;log src 3;", "1 0 0 0", 5);
        // Rows side by side that are alike are one, though different rules make them.
        drawn("log src 1;log src 2;", "1 0 0 0", 3);
        drawn("log src 1-5;log src 4-9;", "1 0 0 0", 3);
        drawn("log src 1;deny src 2;", "1 0 0 0", 3);
        StringBuilder sixteen = new StringBuilder();
        for (int i = 0; i < 8; i++) {
            sixteen.append("log port ").append(2 + 4 * i).append(';');
        }
        drawn(sixteen.toString(), "0 0 1 0", 17);
    }

    /** In both lists, with another one beside it. */
    private static void drawn(String text, String nodes, int edges) {
        for (int list = 0; list < 2; list++) {
            String other = "allow src 77 proto 3;";
            RuleDiagram x = list == 0 ? Check.with(text, other) : Check.with(other, text);
            StringBuilder got = new StringBuilder();
            for (int field = 0; field < 4; field++) {
                got.append(field == 0 ? "" : " ").append(x.nodes(list, field));
            }
            Check.same("nodes of '" + text + "'", got.toString(), nodes);
            Check.same("edges of '" + text + "'", x.edges(list), edges);
        }
    }

    private static void fourConnections() {
        Check.sentence("The GATE keeps up to four CONNECTIONS (source, target, port, protocol)");
        RuleDiagram x = Check.with("log;");
        for (int i = 1; i <= 6; i++) {
            Check.same("pass of " + i, x.pass(0, i, 100, 1000, 3), 2);
            int kept = Math.min(i, 4);
            for (int k = 0; k < kept; k++) {
                Check.same("source of connection " + k, x.connection(k, 0), i - kept + 1 + k);
            }
            Check.same("connection " + kept, x.connection(kept, 0), RuleDiagram.NONE);
        }
        Check.same("connections", Check.connections(x), "3 100 1000 3;4 100 1000 3;5 100 1000 3;6 100 1000 3;");
    }

    private static void connectionsAreDifferent() {
        Check.sentence("CONNECTIONS (source, target, port, protocol), all different");
        RuleDiagram x = Check.with("log;");
        int[][] packets = {{1, 2, 3, 0}, {1, 2, 3, 1}, {1, 2, 4, 0}, {1, 1, 3, 0}};
        String all = "1 2 3 0;1 2 3 1;1 2 4 0;1 1 3 0;";
        for (int[] packet : packets) {
            Check.same("pass", Check.pass(x, 0, packet), 2);
        }
        Check.same("four that differ in one field", Check.connections(x), all);
        for (int[] packet : packets) {
            Check.same("pass again", Check.pass(x, 0, packet), 3);
        }
        for (int[] packet : packets) {
            Check.same("pass of the answer", x.pass(0, packet[1], packet[0], packet[2], packet[3]), 3);
        }
        Check.same("none stands there twice", Check.connections(x), all);
    }

    private static void none() {
        Check.sentence("`NONE = -1`: There is none.");
        Check.same("NONE", RuleDiagram.NONE, -1);
        RuleDiagram x = new RuleDiagram();
        Check.same("first", x.first(0, 0, 0, 0, 0), -1);
        Check.same("witness", x.witness(0), -1);
        Check.same("connection", x.connection(0, 0), -1);
    }

    private static int[] withValue(int field, int value) {
        int[] packet = {0, 0, 0, 0};
        packet[field] = value;
        return packet;
    }
}
