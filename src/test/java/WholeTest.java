import java.util.HashMap;
import java.util.HashSet;
import java.util.Map;
import java.util.Set;

/** A few lists set against all 268,435,456 packets, one by one: what is counted in rows elsewhere is counted singly here. */
final class WholeTest {
    private static final String NESTED = "log src 1-254 dst 1-254 port 1-1022 proto 1-2;deny src 3-250 dst 9 port 100-900;"
        + "allow src 5-200 dst 0/1;log src 7/4 port 80;allow dst 17-99 proto 3;";
    private static final String APART = "allow src 0/2 port 0-99;log dst 200/3;deny port 512/1 proto 1;"
        + "allow src 128-191;log dst 7 port 3;log proto 0;deny src 9;allow;";

    private final RuleDiagram program;
    private final int list;
    private final int[][] rules;
    private final int[] used = new int[9];
    private final int[] counts = new int[3];

    private WholeTest(RuleDiagram program, int list) {
        this.program = program;
        this.list = list;
        rules = Check.rulesOf(program, list);
    }

    public static void main(String[] args) {
        RuleDiagram x = Check.with(NESTED, APART);
        WholeTest nested = new WholeTest(x, 0);
        WholeTest apart = new WholeTest(x, 1);
        nested.countAll();
        apart.countAll();
        nested.drawAll();
        apart.drawAll();
        compareAll(x, nested, apart);
        Check.end();
    }

    /** The set of rules that a value of a field agrees with, for each value. */
    private int[] agreeing(int field, int values) {
        int[] sets = new int[values];
        for (int value = 0; value < values; value++) {
            for (int i = 0; i < rules.length; i++) {
                boolean agrees = value >= rules[i][1 + 2 * field] && value <= rules[i][2 + 2 * field];
                sets[value] |= agrees ? 1 << i : 0;
            }
        }
        return sets;
    }

    /** The verdict for each set of agreeing rules. */
    private char[] verdicts() {
        char[] verdicts = new char[256];
        for (int set = 1; set < 1 << rules.length; set++) {
            verdicts[set] = (char) rules[Integer.numberOfTrailingZeros(set)][0];
        }
        return verdicts;
    }

    private void countAll() {
        int[] sources = agreeing(0, 256);
        int[] targets = agreeing(1, 256);
        int[] ports = agreeing(2, 1024);
        int[] protocols = agreeing(3, 4);
        char[] verdicts = verdicts();
        for (int source : sources) {
            for (int target : targets) {
                for (int port : ports) {
                    for (int protocol : protocols) {
                        int set = source & target & port & protocol;
                        used[set == 0 ? 8 : Integer.numberOfTrailingZeros(set)]++;
                        counts[verdicts[set]]++;
                    }
                }
            }
        }
        for (int i = 0; i < rules.length; i++) {
            Check.same("used(" + list + ", " + i + ")", program.used(list, i), used[i]);
        }
        for (int verdict = 0; verdict < 3; verdict++) {
            Check.same("count(" + list + ", " + verdict + ")", program.count(list, verdict), counts[verdict]);
        }
    }

    /** All tables of the list, each written as a text of the numbers of the tables behind it. */
    private void drawAll() {
        int[] sources = agreeing(0, 256);
        int[] targets = agreeing(1, 256);
        int[] ports = agreeing(2, 1024);
        int[] protocols = agreeing(3, 4);
        char[] verdicts = verdicts();
        Tables[] tables = {new Tables(), new Tables(), new Tables(), new Tables()};
        char[] ofSource = new char[256];
        for (int source = 0; source < 256; source++) {
            char[] ofTarget = new char[256];
            for (int target = 0; target < 256; target++) {
                char[] ofPort = new char[1024];
                for (int port = 0; port < 1024; port++) {
                    char[] ofProtocol = new char[4];
                    for (int protocol = 0; protocol < 4; protocol++) {
                        ofProtocol[protocol] = verdicts[sources[source] & targets[target] & ports[port] & protocols[protocol]];
                    }
                    ofPort[port] = tables[3].numberOf(ofProtocol);
                }
                ofTarget[target] = tables[2].numberOf(ofPort);
            }
            ofSource[source] = tables[1].numberOf(ofTarget);
        }
        tables[0].numberOf(ofSource);
        int edges = 0;
        for (int field = 0; field < 4; field++) {
            Check.same("nodes(" + list + ", " + field + ")", program.nodes(list, field), tables[field].nodes.size());
            edges += tables[field].edges();
        }
        Check.same("edges(" + list + ")", program.edges(list), edges);
    }

    private static void compareAll(RuleDiagram x, WholeTest one, WholeTest other) {
        int[][] sets = new int[8][];
        for (int field = 0; field < 4; field++) {
            sets[field] = one.agreeing(field, Model.VALUES[field]);
            sets[4 + field] = other.agreeing(field, Model.VALUES[field]);
        }
        char[] ofOne = one.verdicts();
        char[] ofOther = other.verdicts();
        int differing = 0;
        int first = -1;
        for (int packet = 0; packet < 1 << 28; packet++) {
            int source = packet >> 20;
            int target = packet >> 12 & 255;
            int port = packet >> 2 & 1023;
            int protocol = packet & 3;
            int set = sets[0][source] & sets[1][target] & sets[2][port] & sets[3][protocol];
            int otherSet = sets[4][source] & sets[5][target] & sets[6][port] & sets[7][protocol];
            if (ofOne[set] != ofOther[otherSet]) {
                differing++;
                first = first < 0 ? packet : first;
            }
        }
        Check.same("differing()", x.differing(), differing);
        int[] packet = {first >> 20, first >> 12 & 255, first >> 2 & 1023, first & 3};
        for (int field = 0; field < 4; field++) {
            Check.same("witness(" + field + ")", x.witness(field), packet[field]);
        }
    }

    /** The tables of a field that have been seen, with a number for each. */
    private static final class Tables {
        private final Map<String, Character> numbers = new HashMap<>();
        private final Set<String> nodes = new HashSet<>();

        char numberOf(char[] parts) {
            String table = new String(parts);
            if (!numbers.containsKey(table)) {
                numbers.put(table, (char) numbers.size());
                if (rowsOf(table) > 1) {
                    nodes.add(table);
                }
            }
            return numbers.get(table);
        }

        int edges() {
            int sum = 0;
            for (String node : nodes) {
                sum += rowsOf(node);
            }
            return sum;
        }

        private static int rowsOf(String table) {
            int rows = 1;
            for (int i = 1; i < table.length(); i++) {
                rows += table.charAt(i) == table.charAt(i - 1) ? 0 : 1;
            }
            return rows;
        }
    }
}
