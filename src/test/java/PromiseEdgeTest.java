/** "Promise 1" to "Promise 18": each sentence that names a boundary case. What is refused stands in RefusalTest. */
final class PromiseEdgeTest {
    private static final int ALL = Check.ALL_PACKETS;
    private static final String FREE = "-1 -1 -1 -1;";
    private static final String ANY = "0 255 0 255 0 1023 0 3;";

    public static void main(String[] args) {
        newObject();
        putLowestFirst();
        putWithoutZeros();
        putHowMany();
        readBehindOthers();
        readEmptiesTheText();
        readHowMany();
        readNothingChanges();
        readFaultOrTooMany();
        remove();
        swap();
        rules();
        rule();
        verdict();
        first();
        count();
        countAsRulesComeAndGo();
        nodes();
        edges();
        differing();
        witness();
        witnessOrder();
        witnessOfNone();
        used();
        prune();
        passBelongs();
        passAnswers();
        passNewest();
        passVerdict();
        passOldestGoes();
        connection();
        connectionOfNone();
        Check.end();
    }

    private static void newObject() {
        Check.sentence("Empty lists, an empty text, no connections.");
        RuleDiagram x = new RuleDiagram();
        Check.same("a new object", Check.look(x), "||" + FREE.repeat(4) + "|0");
        for (int list = 0; list < 2; list++) {
            Check.same("rules", x.rules(list), 0);
            Check.same("verdict", x.verdict(list, 0, 0, 0, 0), 0);
            Check.same("count", x.count(list, 0), ALL);
            Check.same("prune", x.prune(list), 0);
            Check.same("pass", x.pass(list, 1, 2, 3, 0), 0);
            Check.same("read", x.read(list), 0);
        }
        Check.same("still a new one", Check.look(x), "||" + FREE.repeat(4) + "|0");
    }

    private static void putLowestFirst() {
        Check.sentence("Four more signs, the lowest byte first");
        RuleDiagram x = new RuleDiagram();
        x.put('l' | 'o' << 8 | 'g' << 16 | ';' << 24);
        Check.same("read", x.read(0), 1);
        x.put('l' << 24 | 'o' << 16 | 'g' << 8 | ';');
        Check.same("read of the other order", x.read(0), -1);
        x.put('d' | 'e' << 8 | 'n' << 16 | 'y' << 24);
        x.put(' ' | 's' << 8 | 'r' << 16 | 'c' << 24);
        x.put('1' | '2' << 8 | '3' << 16 | ';' << 24);
        Check.same("read of three times four", x.read(0), 1);
        Check.same("rules", Check.show(x, 0), "2 " + ANY + "0 123 123 0 255 0 1023 0 3;");
    }

    private static void putWithoutZeros() {
        Check.sentence("(those that are 0 are left out)");
        int[] letters = {'l', 'o', 'g', ';'};
        for (int place = 0; place < 4; place++) {
            RuleDiagram x = new RuleDiagram();
            for (int i = 0; i < 4; i++) {
                Check.same("put of one sign at " + place, x.put(letters[i] << 8 * place), i + 1);
                Check.same("put of none", x.put(0), i + 1);
            }
            Check.same("read", x.read(0), 1);
        }
        RuleDiagram x = new RuleDiagram();
        Check.same("two signs", x.put('l' << 8 | 'o' << 24), 2);
        Check.same("two more", x.put('g' | ';' << 16), 4);
        Check.same("read", x.read(0), 1);
    }

    private static void putHowMany() {
        Check.sentence("how many the text has. IllegalArgumentException");
        RuleDiagram x = new RuleDiagram();
        Check.same("none", x.put(0), 0);
        for (int i = 1; i <= 60; i++) {
            Check.same("put " + i, x.put(Check.four("abcd")), 4 * i);
        }
        Check.same("none more", x.put(0), 240);
        x.read(0);
        Check.same("behind read", x.put('a'), 1);
    }

    private static void readBehindOthers() {
        Check.sentence("The text's rules come behind those of a list");
        RuleDiagram x = new RuleDiagram();
        Check.read(x, 0, "deny src 1;");
        Check.read(x, 1, "deny src 9;");
        Check.read(x, 0, "log src 2;allow src 3;");
        Check.read(x, 0, "");
        Check.read(x, 0, "log src 4;");
        Check.same("verdicts", Check.verdicts(x, 0) + " " + Check.verdicts(x, 1), "0212 0");
        for (int i = 0; i < 4; i++) {
            Check.same("source of rule " + i, x.rule(0, i, 1), i + 1);
        }
    }

    private static void readEmptiesTheText() {
        Check.sentence("the text is empty then: how many there were.");
        RuleDiagram x = new RuleDiagram();
        Check.read(x, 0, "log;");
        Check.same("signs", x.put(0), 0);
        Check.same("read again", x.read(0), 0);
        Check.same("read into the other list", x.read(1), 0);
        Check.same("rules", x.rules(0) + " " + x.rules(1), "1 0");
        // Signs of the text that was longer are not read again.
        Check.read(x, 0, "deny src 1;allow;");
        Check.same("a shorter text", Check.read(x, 0, "log src 2"), -1 - 9);
    }

    private static void readHowMany() {
        Check.sentence("how many there were.");
        for (int many = 0; many <= 8; many++) {
            RuleDiagram x = new RuleDiagram();
            Check.same("rules of the text", Check.read(x, 1, "log;".repeat(many)), many);
            Check.same("rules of the list", x.rules(1), many);
            // As many as the text had, not as the list has.
            Check.same("rules of an empty text", x.read(1), 0);
        }
        RuleDiagram x = Check.with("log;log;log;");
        Check.same("rules of the text behind others", Check.read(x, 0, "log;log;"), 2);
    }

    private static void readNothingChanges() {
        Check.sentence("or the list would have more than eight, nothing changes but that the text is empty");
        for (int had = 0; had <= 8; had++) {
            for (int more = 0; more <= 9; more++) {
                RuleDiagram x = Check.with("log src 1;".repeat(had), "allow;");
                x.pass(1, 1, 2, 3, 0);
                String before = Check.look(x);
                boolean fits = had + more <= 8;
                Check.same(more + " behind " + had, Check.read(x, 0, "deny;".repeat(more)), fits ? more : -1000);
                Check.same("rules", x.rules(0), fits ? had + more : had);
                if (!fits) {
                    Check.same("what " + more + " behind " + had + " leave", Check.look(x), before);
                }
            }
        }
    }

    private static void readFaultOrTooMany() {
        Check.sentence("-1 and as much less as its fault, or -1000.");
        Check.faulty("x", 0);
        Check.faulty(" x", 1);
        Check.faulty(" ".repeat(237) + "log", 240);
        Check.faulty("log;".repeat(8) + "log", 35);
        Check.faulty("log;".repeat(59) + "log:", 239);
        RuleDiagram x = Check.with("log;".repeat(8));
        Check.same("sixty rules", Check.read(x, 1, "log;".repeat(60)), -1000);
        Check.same("a fault in a full list", Check.read(x, 0, "deny;x"), -6);
        Check.same("no rules in a full list", Check.read(x, 0, " \n"), 0);
        Check.same("rules", Check.verdicts(x, 0) + " " + x.rules(1), "22222222 0");
    }

    private static void remove() {
        Check.sentence("Rule i of a list goes.");
        for (int size = 1; size <= 8; size++) {
            for (int i = 0; i < size; i++) {
                RuleDiagram x = Check.with(numbered(size), numbered(size));
                x.remove(1, i);
                StringBuilder due = new StringBuilder();
                for (int k = 0; k < size; k++) {
                    due.append(k == i ? "" : k + " ");
                }
                Check.same("sources without " + i, sources(x, 1), due.toString());
                Check.same("the other list", x.rules(0), size);
                Check.same("room for one", Check.read(x, 1, "log src 99;".repeat(9 - size)), 9 - size);
            }
        }
    }

    private static void swap() {
        Check.sentence("Rule i of a list changes places with the one behind it.");
        for (int size = 2; size <= 8; size++) {
            for (int i = 0; i + 1 < size; i++) {
                RuleDiagram x = Check.with(numbered(size), numbered(size));
                x.swap(0, i);
                StringBuilder due = new StringBuilder();
                for (int k = 0; k < size; k++) {
                    due.append(k == i ? k + 1 : k == i + 1 ? i : k).append(' ');
                }
                Check.same("sources with " + i + " swapped", sources(x, 0), due.toString());
                x.swap(0, i);
                Check.same("swapped back", Check.show(x, 0), Check.show(x, 1));
            }
        }
        RuleDiagram x = Check.with("log;");
        Check.fails("swap of the only rule", Check.ARGUMENT, () -> x.swap(0, 0));
    }

    private static void rules() {
        Check.sentence("How many rules a list has.");
        RuleDiagram x = new RuleDiagram();
        for (int size = 0; size < 8; size++) {
            Check.same("rules", x.rules(1), size);
            Check.read(x, 1, "log;");
        }
        for (int size = 8; size > 0; size--) {
            Check.same("rules", x.rules(1), size);
            x.remove(1, 0);
        }
        Check.same("rules", x.rules(1) + " " + x.rules(0), "0 0");
    }

    private static void rule() {
        Check.sentence("its verdict (what = 0), or the least (1 + 2 f) or greatest (2 + 2 f) value of field f.");
        RuleDiagram x = Check.with("deny;".repeat(7) + "log src 1-2 dst 3-4 port 5-6 proto 2-3;");
        int[] due = {2, 1, 2, 3, 4, 5, 6, 2, 3};
        for (int what = 0; what < 9; what++) {
            Check.same("rule(0, 7, " + what + ")", x.rule(0, 7, what), due[what]);
        }
        int[] any = {0, 0, 255, 0, 255, 0, 1023, 0, 3};
        for (int what = 0; what < 9; what++) {
            Check.same("rule(0, 0, " + what + ")", x.rule(0, 0, what), any[what]);
        }
    }

    private static void verdict() {
        Check.sentence("A list's verdict of a packet. ## Promise 9");
        RuleDiagram x = Check.with("log src 255 dst 255 port 1023 proto 3;allow src 0 dst 0 port 0 proto 0;", "deny;");
        Check.same("the last packet", x.verdict(0, 255, 255, 1023, 3), 2);
        Check.same("the first packet", x.verdict(0, 0, 0, 0, 0), 1);
        Check.same("one that no rule matches", x.verdict(0, 0, 0, 0, 1), 0);
        Check.same("one that a rule denies", x.verdict(1, 0, 0, 0, 1), 0);
    }

    private static void first() {
        Check.sentence("The first rule of a list that matches a packet; NONE.");
        RuleDiagram x = Check.with(numbered(8), "deny;");
        for (int i = 0; i < 8; i++) {
            Check.same("first of source " + i, x.first(0, i, 255, 1023, 3), i);
        }
        Check.same("first where none matches", x.first(0, 8, 0, 0, 0), RuleDiagram.NONE);
        Check.same("first that denies", x.first(1, 8, 0, 0, 0), 0);
        x.remove(1, 0);
        Check.same("first of no rules", x.first(1, 8, 0, 0, 0), RuleDiagram.NONE);
        Check.same("first of two that match", Check.with("log src 1;log;deny src 1;").first(0, 2, 0, 0, 0), 1);
    }

    private static void count() {
        Check.sentence("How many packets have a verdict by a list.");
        counts("", ALL, 0, 0);
        counts("allow;", 0, ALL, 0);
        counts("log;allow;deny;", 0, 0, ALL);
        counts("deny;log;", ALL, 0, 0);
        counts("log src 0 dst 0 port 0 proto 0;", ALL - 1, 0, 1);
        counts("deny src 255 dst 255 port 1023 proto 3;allow;", 1, ALL - 1, 0);
        counts("allow src 0-254;log src 255;", 0, ALL / 256 * 255, ALL / 256);
        // Packets that two rules match are counted once.
        counts("log src 0/1;log src 0-191;allow dst 0/1;", ALL / 8, ALL / 8, ALL / 4 * 3);
        counts("log src 1;".repeat(8), ALL / 256 * 255, 0, ALL / 256);
    }

    private static void countAsRulesComeAndGo() {
        Check.sentence("How many packets have a verdict by a list.");
        RuleDiagram x = new RuleDiagram();
        for (int size = 0; size < 8; size++) {
            Check.same("count of " + size + " rules", x.count(0, 2), size * (ALL / 256));
            Check.read(x, 0, "log src " + size + ";");
        }
        for (int size = 8; size > 0; size--) {
            Check.same("count of " + size + " rules", x.count(0, 2), size * (ALL / 256));
            Check.same("edges of " + size + " rules", x.edges(0), size == 8 ? 2 : 3);
            x.remove(0, 0);
        }
        Check.same("count of none", x.count(0, 2), 0);
    }

    private static void counts(String text, int... due) {
        RuleDiagram x = Check.with(text, text);
        for (int verdict = 0; verdict < 3; verdict++) {
            Check.same("count(0, " + verdict + ") of '" + text + "'", x.count(0, verdict), due[verdict]);
            Check.same("count(1, " + verdict + ") of '" + text + "'", x.count(1, verdict), due[verdict]);
        }
    }

    private static void nodes() {
        Check.sentence("How many nodes of a field a list's diagram has.");
        Check.same("of no rules", nodesOf(new RuleDiagram(), 0), "0 0 0 0");
        Check.same("of one packet", nodesOf(Check.with("log src 0 dst 0 port 0 proto 0;"), 0), "1 1 1 1");
        Check.same("of the last packet", nodesOf(Check.with("log src 255 dst 255 port 1023 proto 3;"), 0), "1 1 1 1");
        // Eight rules, each with a target of its own behind its source: eight tables of target, and eight of port.
        RuleDiagram x = new RuleDiagram();
        for (int i = 0; i < 8; i++) {
            Check.read(x, 1, "log src " + 2 * i + " dst " + 2 * i + " port " + 2 * i + " proto " + i % 4 + ";");
        }
        Check.same("of eight rules", nodesOf(x, 1), "1 8 8 4");
    }

    private static String nodesOf(RuleDiagram x, int list) {
        return x.nodes(list, 0) + " " + x.nodes(list, 1) + " " + x.nodes(list, 2) + " " + x.nodes(list, 3);
    }

    private static void edges() {
        Check.sentence("How many edges the nodes of a list's diagram have together.");
        Check.same("of no rules", new RuleDiagram().edges(0), 0);
        Check.same("of rules that say one thing", Check.with("log src 1;log;").edges(0), 0);
        Check.same("of one field", Check.with("", "log proto 3;").edges(1), 2);
        Check.same("of one packet", Check.with("log src 0 dst 0 port 0 proto 0;").edges(0), 8);
        Check.same("of one packet amidst", Check.with("log src 7 dst 7 port 7 proto 1;").edges(0), 12);
    }

    private static void differing() {
        Check.sentence("How many packets both lists have different verdicts of.");
        Check.same("two empty lists", new RuleDiagram().differing(), 0);
        Check.same("an empty list and one that denies", Check.with("", "deny;").differing(), 0);
        Check.same("all packets", Check.with("log;", "").differing(), ALL);
        Check.same("two verdicts that both let through", Check.with("log;", "allow;").differing(), ALL);
        Check.same("all but one", Check.with("log;", "log src 3 dst 3 port 3 proto 3;").differing(), ALL - 1);
        Check.same("the last packet", Check.with("", "log src 255 dst 255 port 1023 proto 3;").differing(), 1);
        Check.same("the first packet", Check.with("log src 0 dst 0 port 0 proto 0;", "").differing(), 1);
        Check.same("two full lists that are alike", Check.with(numbered(8), numbered(8)).differing(), 0);
        Check.same("two full lists that meet nowhere", Check.with(numbered(8), numbered(8).replace("src ", "src 10")).differing(),
            16 * (ALL / 256));
    }

    private static void witness() {
        Check.sentence("A field of the first packet (by source, then target, port, protocol) of which both lists have different verdicts");
        witnessed("log;", "", "0 0 0 0");
        witnessed("log src 255 dst 255 port 1023 proto 3;", "", "255 255 1023 3");
        witnessed("log src 0 dst 0 port 0 proto 0;", "", "0 0 0 0");
        witnessed("log;", "log src 0-254;", "255 0 0 0");
        witnessed("log;", "log dst 0-254;", "0 255 0 0");
        witnessed("log;", "log port 0-1022;", "0 0 1023 0");
        witnessed("log;", "log proto 0-2;", "0 0 0 3");
    }

    private static void witnessOrder() {
        Check.sentence("(by source, then target, port, protocol)");
        witnessed("log src 1 dst 0 port 0 proto 0;log src 0 dst 255 port 1023 proto 3;", "", "0 255 1023 3");
        witnessed("log dst 1 port 0 proto 0;log dst 0 port 1023 proto 3;", "", "0 0 1023 3");
        witnessed("log port 1 proto 0;log port 0 proto 3;", "", "0 0 0 3");
        witnessed("log src 7 proto 2-3;log src 7 port 1;", "", "7 0 0 2");
    }

    private static void witnessOfNone() {
        Check.sentence("NONE if there is none. IllegalArgumentException if there is no such field.");
        witnessed("", "", "-1 -1 -1 -1");
        witnessed("deny;", "", "-1 -1 -1 -1");
        witnessed("log src 0/1;log src 128/1;", "log;", "-1 -1 -1 -1");
        witnessed(numbered(8), numbered(8), "-1 -1 -1 -1");
        // As many ends of ranges as there can be, all different, and yet nothing to tell the lists apart.
        StringBuilder one = new StringBuilder();
        StringBuilder other = new StringBuilder();
        for (int i = 0; i < 8; i++) {
            one.append("deny src ").append(1 + 4 * i).append('-').append(200 - 4 * i).append(';');
            other.append("deny src ").append(3 + 4 * i).append('-').append(198 - 4 * i).append(';');
        }
        witnessed(one.toString(), other.toString(), "-1 -1 -1 -1");
    }

    private static void witnessed(String one, String other, String due) {
        for (RuleDiagram x : new RuleDiagram[] {Check.with(one, other), Check.with(other, one)}) {
            String got = x.witness(0) + " " + x.witness(1) + " " + x.witness(2) + " " + x.witness(3);
            Check.same("witness of '" + one + "' and '" + other + "'", got, due);
        }
    }

    private static void used() {
        Check.sentence("How many packets a rule is the first one for that matches.");
        RuleDiagram x = Check.with("log src 0 dst 0 port 0 proto 0;log src 0/1;log src 0-127;log src 1-128;deny;allow;");
        int[] due = {1, ALL / 2 - 1, 0, ALL / 256, ALL / 256 * 127, 0};
        for (int i = 0; i < due.length; i++) {
            Check.same("used(0, " + i + ")", x.used(0, i), due[i]);
        }
        Check.same("used of all", Check.with("deny;").used(0, 0), ALL);
        Check.same("used of the last of eight", Check.with("", numbered(8)).used(1, 7), ALL / 256);
        Check.same("used of eight alike", Check.with("log src 1;".repeat(8)).used(0, 7), 0);
    }

    private static void prune() {
        Check.sentence("All rules of a list that are the first one for no packet go: how many.");
        pruned("", 0, "");
        pruned("deny;", 0, "0");
        pruned("log;".repeat(8), 7, "2");
        pruned("log;deny;allow;", 2, "2");
        pruned("log src 1;deny;", 0, "20");
        pruned("log src 1;deny src 1;allow;log;", 2, "21");
        // Covered by two others together, by none alone.
        pruned("log src 0/1;allow src 128/1;deny dst 5;", 1, "21");
        pruned("log proto 0;allow proto 1;log proto 2;allow proto 3;deny;", 1, "2121");
        // One packet is enough to stay.
        pruned("log src 0-254;log dst 0-254;log port 0-1022;log proto 0-2;deny;", 0, "22220");
        pruned(numbered(8), 0, "2".repeat(8));
        RuleDiagram x = Check.with("log;log;", "allow;allow;");
        x.prune(1);
        Check.same("the other list", x.rules(0) + " " + x.rules(1), "2 1");
    }

    private static void pruned(String text, int due, String verdicts) {
        RuleDiagram x = Check.with(text);
        Check.same("prune of '" + text + "'", x.prune(0), due);
        Check.same("what is left of '" + text + "'", Check.verdicts(x, 0), verdicts);
        Check.same("prune again of '" + text + "'", x.prune(0), 0);
    }

    private static void passBelongs() {
        Check.sentence("3 if it belongs to a connection");
        RuleDiagram x = Check.with("allow;");
        Check.same("first pass", x.pass(0, 1, 2, 3, 0), 1);
        Check.same("second pass", x.pass(0, 1, 2, 3, 0), 3);
        Check.same("by a list that denies", x.pass(1, 1, 2, 3, 0), 3);
        Check.same("one that differs in source", x.pass(1, 0, 2, 3, 0), 0);
        Check.same("one that differs in target", x.pass(1, 1, 3, 3, 0), 0);
        Check.same("one that differs in port", x.pass(1, 1, 2, 4, 0), 0);
        Check.same("one that differs in protocol", x.pass(1, 1, 2, 3, 1), 0);
        Check.same("connections", Check.connections(x), "1 2 3 0;" + FREE.repeat(3));
    }

    private static void passAnswers() {
        Check.sentence("or is an answer to one (source and target changed, the same port and protocol)");
        RuleDiagram x = Check.with("allow src 1;");
        Check.same("an answer to none", x.pass(0, 2, 1, 3, 0), 0);
        Check.same("pass", x.pass(0, 1, 2, 3, 0), 1);
        Check.same("its answer", x.pass(0, 2, 1, 3, 0), 3);
        Check.same("its answer by the other list", x.pass(1, 2, 1, 3, 0), 3);
        Check.same("another port", x.pass(0, 2, 1, 2, 0), 0);
        Check.same("another protocol", x.pass(0, 2, 1, 3, 1), 0);
        Check.same("another source", x.pass(0, 3, 1, 3, 0), 0);
        Check.same("another target", x.pass(0, 2, 2, 3, 0), 0);
        Check.same("connections", Check.connections(x), "1 2 3 0;" + FREE.repeat(3));
    }

    private static void passNewest() {
        Check.sentence("that connection becomes the newest one, as it was");
        RuleDiagram x = gated(4);
        Check.same("the oldest of four", x.pass(0, 1, 100, 5, 1), 3);
        Check.same("connections", Check.connections(x), "2 100 5 1;3 100 5 1;4 100 5 1;1 100 5 1;");
        Check.same("an answer to the third of four", x.pass(0, 100, 4, 5, 1), 3);
        Check.same("connections", Check.connections(x), "2 100 5 1;3 100 5 1;1 100 5 1;4 100 5 1;");
        Check.same("an answer to the newest one", x.pass(0, 100, 4, 5, 1), 3);
        Check.same("connections", Check.connections(x), "2 100 5 1;3 100 5 1;1 100 5 1;4 100 5 1;");
        RuleDiagram one = gated(1);
        Check.same("an answer to the only one", one.pass(0, 100, 1, 5, 1), 3);
        Check.same("connections", Check.connections(one), "1 100 5 1;" + FREE.repeat(3));
        RuleDiagram two = gated(2);
        Check.same("an answer to the older of two", two.pass(0, 100, 1, 5, 1), 3);
        Check.same("connections", Check.connections(two), "2 100 5 1;1 100 5 1;" + FREE.repeat(2));
    }

    private static void passVerdict() {
        Check.sentence("otherwise the list's verdict: if that isn't 0, the packet is the newest connection");
        RuleDiagram x = Check.with("deny src 1;allow src 2;log src 3;");
        Check.same("by a rule that denies", x.pass(0, 1, 9, 9, 0), 0);
        Check.same("by no rule", x.pass(0, 4, 9, 9, 0), 0);
        Check.same("by no rules", x.pass(1, 2, 9, 9, 0), 0);
        Check.same("connections", Check.connections(x), FREE.repeat(4));
        Check.same("by a rule that allows", x.pass(0, 2, 9, 9, 0), 1);
        Check.same("by a rule that logs", x.pass(0, 3, 9, 9, 0), 2);
        Check.same("connections", Check.connections(x), "2 9 9 0;3 9 9 0;" + FREE.repeat(2));
        Check.same("denied again", x.pass(0, 1, 9, 9, 0), 0);
        Check.same("connections", Check.connections(x), "2 9 9 0;3 9 9 0;" + FREE.repeat(2));
    }

    private static void passOldestGoes() {
        Check.sentence("(if there are four, the oldest one goes first)");
        RuleDiagram x = gated(3);
        Check.same("the fourth", x.pass(0, 4, 100, 5, 1), 2);
        Check.same("connections", Check.connections(x), "1 100 5 1;2 100 5 1;3 100 5 1;4 100 5 1;");
        Check.same("the fifth", x.pass(0, 5, 100, 5, 1), 2);
        Check.same("connections", Check.connections(x), "2 100 5 1;3 100 5 1;4 100 5 1;5 100 5 1;");
        // One that is denied, and one that is known, drive none out.
        Check.same("denied", x.pass(1, 6, 100, 5, 1), 0);
        Check.same("known", x.pass(1, 5, 100, 5, 1), 3);
        Check.same("connections", Check.connections(x), "2 100 5 1;3 100 5 1;4 100 5 1;5 100 5 1;");
        Check.same("an answer to the one that went", x.pass(1, 100, 1, 5, 1), 0);
        // The one that became the newest is not the one that goes.
        Check.same("the oldest one is used", x.pass(1, 2, 100, 5, 1), 3);
        Check.same("the sixth", x.pass(0, 6, 100, 5, 1), 2);
        Check.same("connections", Check.connections(x), "4 100 5 1;5 100 5 1;2 100 5 1;6 100 5 1;");
        // The one that went may come again.
        Check.same("the first again", x.pass(0, 1, 100, 5, 1), 2);
        Check.same("connections", Check.connections(x), "5 100 5 1;2 100 5 1;6 100 5 1;1 100 5 1;");
    }

    private static void connection() {
        Check.sentence("Field f of connection k, 0 the oldest");
        RuleDiagram x = Check.with("log;");
        x.pass(0, 255, 254, 1023, 3);
        x.pass(0, 0, 1, 2, 0);
        int[][] due = {{255, 254, 1023, 3}, {0, 1, 2, 0}};
        for (int k = 0; k < 2; k++) {
            for (int f = 0; f < 4; f++) {
                Check.same("connection(" + k + ", " + f + ")", x.connection(k, f), due[k][f]);
            }
        }
    }

    private static void connectionOfNone() {
        Check.sentence("NONE if there is no such connection.");
        for (int many = 0; many <= 4; many++) {
            RuleDiagram x = gated(many);
            for (int k : new int[] {-1, many, 4, 5, Check.MIN, Check.MAX}) {
                for (int f = 0; f < 4; f++) {
                    Check.same("connection(" + k + ", " + f + ") of " + many, x.connection(k, f), RuleDiagram.NONE);
                }
            }
            if (many > 0) {
                Check.same("the newest of " + many, x.connection(many - 1, 0), many);
            }
        }
    }

    /** An object whose list 0 logs all, with some connections from 1 on. */
    private static RuleDiagram gated(int many) {
        RuleDiagram x = Check.with("log;");
        for (int i = 1; i <= many; i++) {
            x.pass(0, i, 100, 5, 1);
        }
        return x;
    }

    /** Rules whose sources are their numbers. */
    private static String numbered(int size) {
        StringBuilder text = new StringBuilder();
        for (int i = 0; i < size; i++) {
            text.append("log src ").append(i).append(';');
        }
        return text.toString();
    }

    private static String sources(RuleDiagram x, int list) {
        StringBuilder sources = new StringBuilder();
        for (int[] rule : Check.rulesOf(x, list)) {
            sources.append(rule[1]).append(' ');
        }
        return sources.toString();
    }
}
