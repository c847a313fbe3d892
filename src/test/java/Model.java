import java.util.ArrayList;
import java.util.HashMap;
import java.util.HashSet;
import java.util.List;
import java.util.Map;
import java.util.Set;
import java.util.TreeSet;
import java.util.regex.Matcher;
import java.util.regex.Pattern;

/** The document's promises written down a second time, with the library and without thought of room. */
final class Model {
    static final int[] VALUES = {256, 256, 1024, 4};
    private static final int[] BITS = {8, 8, 10, 2};
    private static final List<String> VERDICTS = List.of("deny", "allow", "log");
    private static final List<String> FIELDS = List.of("src", "dst", "port", "proto");

    private final List<List<int[]>> lists = List.of(new ArrayList<>(), new ArrayList<>());
    private final List<int[]> connections = new ArrayList<>();
    private String text = "";

    int put(int signs) {
        StringBuilder more = new StringBuilder();
        for (int i = 0; i < 4; i++) {
            int sign = signs >> 8 * i & 255;
            if (sign > 127) {
                throw new IllegalArgumentException();
            }
            if (sign != 0) {
                more.append((char) sign);
            }
        }
        if (text.length() + more.length() > 240) {
            throw new UnsupportedOperationException();
        }
        text += more;
        return text.length();
    }

    int read(int list) {
        List<int[]> rules = listOf(list);
        String all = text;
        text = "";
        List<int[]> found = new ArrayList<>();
        int fault = parse(all, found);
        if (fault >= 0) {
            return -1 - fault;
        }
        if (rules.size() + found.size() > 8) {
            return -1000;
        }
        rules.addAll(found);
        return found.size();
    }

    /** The fault of a text, or -1. Each state is named by what may come next. */
    private static int parse(String text, List<int[]> found) {
        Matcher pieces = Pattern.compile("[a-z]+|[0-9]+|[^ \n]").matcher(text);
        String state = "verdict";
        int[] rule = null;
        Set<String> told = new HashSet<>();
        int field = -1;
        while (pieces.find()) {
            String piece = pieces.group();
            boolean isNumber = piece.matches("[0-9]{1,4}");
            int number = isNumber ? Integer.parseInt(piece) : -1;
            int least = field < 0 ? 0 : rule[1 + 2 * field];
            if (state.equals("verdict") && VERDICTS.contains(piece)) {
                rule = new int[] {VERDICTS.indexOf(piece), 0, 255, 0, 255, 0, 1023, 0, 3};
                told.clear();
                state = "field";
            } else if ((state.equals("field") || state.equals("sign or field")) && piece.equals(";")) {
                found.add(rule);
                state = "verdict";
            } else if (state.equals("sign or field") && (piece.equals("-") || piece.equals("/"))) {
                state = piece;
            } else if ((state.equals("field") || state.equals("sign or field")) && FIELDS.contains(piece) && told.add(piece)) {
                field = FIELDS.indexOf(piece);
                state = "value";
            } else if (state.equals("value") && piece.equals("any")) {
                state = "field";
            } else if (state.equals("value") && isNumber && number < VALUES[field]) {
                rule[1 + 2 * field] = number;
                rule[2 + 2 * field] = number;
                state = "sign or field";
            } else if (state.equals("-") && isNumber && number < VALUES[field] && number >= least) {
                rule[2 + 2 * field] = number;
                state = "field";
            } else if (state.equals("/") && isNumber && number <= BITS[field]) {
                int row = VALUES[field] >> number;
                rule[1 + 2 * field] = least - least % row;
                rule[2 + 2 * field] = least - least % row + row - 1;
                state = "field";
            } else {
                return pieces.start();
            }
        }
        return state.equals("verdict") ? -1 : text.length();
    }

    void remove(int list, int i) {
        ruleOf(list, i);
        listOf(list).remove(i);
    }

    void swap(int list, int i) {
        int[] upper = ruleOf(list, i);
        int[] lower = ruleOf(list, i + 1);
        listOf(list).set(i, lower);
        listOf(list).set(i + 1, upper);
    }

    int rules(int list) {
        return listOf(list).size();
    }

    int rule(int list, int i, int what) {
        int[] rule = ruleOf(list, i);
        require(what >= 0 && what < 9);
        return rule[what];
    }

    int verdict(int list, int... packet) {
        int i = first(list, packet);
        return i < 0 ? 0 : listOf(list).get(i)[0];
    }

    int first(int list, int... packet) {
        listOf(list);
        for (int f = 0; f < 4; f++) {
            require(packet[f] >= 0 && packet[f] < VALUES[f]);
        }
        return firstFor(list, packet);
    }

    int count(int list, int verdict) {
        listOf(list);
        require(verdict >= 0 && verdict < 3);
        int sum = 0;
        for (int[] packet : packets()) {
            sum += verdictFor(list, packet) == verdict ? packet[4] : 0;
        }
        return sum;
    }

    int nodes(int list, int field) {
        listOf(list);
        require(field >= 0 && field < 4);
        return diagram(list)[field];
    }

    int edges(int list) {
        listOf(list);
        return diagram(list)[4];
    }

    int differing() {
        int sum = 0;
        for (int[] packet : packets()) {
            sum += verdictFor(0, packet) != verdictFor(1, packet) ? packet[4] : 0;
        }
        return sum;
    }

    int witness(int field) {
        require(field >= 0 && field < 4);
        for (int[] packet : packets()) {
            if (verdictFor(0, packet) != verdictFor(1, packet)) {
                return packet[field];
            }
        }
        return -1;
    }

    int used(int list, int i) {
        ruleOf(list, i);
        int sum = 0;
        for (int[] packet : packets()) {
            sum += firstFor(list, packet) == i ? packet[4] : 0;
        }
        return sum;
    }

    int prune(int list) {
        List<int[]> left = new ArrayList<>();
        int size = rules(list);
        for (int i = 0; i < size; i++) {
            if (used(list, i) > 0) {
                left.add(ruleOf(list, i));
            }
        }
        listOf(list).clear();
        listOf(list).addAll(left);
        return size - left.size();
    }

    int pass(int list, int... packet) {
        int verdict = verdict(list, packet);
        for (int[] c : connections) {
            boolean sameRest = c[2] == packet[2] && c[3] == packet[3];
            boolean belongs = c[0] == packet[0] && c[1] == packet[1];
            boolean answers = c[0] == packet[1] && c[1] == packet[0];
            if (sameRest && (belongs || answers)) {
                connections.remove(c);
                connections.add(c);
                return 3;
            }
        }
        if (verdict != 0) {
            if (connections.size() == 4) {
                connections.remove(0);
            }
            connections.add(packet);
        }
        return verdict;
    }

    int connection(int k, int f) {
        require(f >= 0 && f < 4);
        return k < 0 || k >= connections.size() ? -1 : connections.get(k)[f];
    }

    /** The nodes of each field, and all edges, from the tables themselves. */
    private int[] diagram(int list) {
        List<Set<List<Integer>>> nodes = new ArrayList<>();
        List<Map<List<Integer>, Integer>> numbers = new ArrayList<>();
        for (int f = 0; f < 4; f++) {
            nodes.add(new HashSet<>());
            numbers.add(new HashMap<>());
        }
        table(list, 0, new int[4], nodes, numbers);
        int[] answer = new int[5];
        for (int f = 0; f < 4; f++) {
            answer[f] = nodes.get(f).size();
            for (List<Integer> node : nodes.get(f)) {
                answer[4] += rowsOf(node);
            }
        }
        return answer;
    }

    /** A number for the table behind a packet's values ahead of a field: the same one for tables that are alike. */
    private int table(int list, int field, int[] packet, List<Set<List<Integer>>> nodes,
            List<Map<List<Integer>, Integer>> numbers) {
        if (field == 4) {
            return verdictFor(list, packet);
        }
        List<Integer> parts = new ArrayList<>();
        for (int value : valuesOf(field)) {
            packet[field] = value;
            parts.add(table(list, field + 1, packet, nodes, numbers));
        }
        if (rowsOf(parts) > 1) {
            nodes.get(field).add(parts);
        }
        Map<List<Integer>, Integer> known = numbers.get(field);
        known.putIfAbsent(parts, known.size());
        return known.get(parts);
    }

    private static int rowsOf(List<Integer> parts) {
        int rows = 1;
        for (int i = 1; i < parts.size(); i++) {
            rows += parts.get(i).equals(parts.get(i - 1)) ? 0 : 1;
        }
        return rows;
    }

    /** Packets in their order, each with how many packets it stands for. */
    private List<int[]> packets() {
        List<int[]> packets = new ArrayList<>();
        List<List<Integer>> values = List.of(valuesOf(0), valuesOf(1), valuesOf(2), valuesOf(3));
        int[] at = new int[4];
        for (at[0] = 0; at[0] < values.get(0).size(); at[0]++) {
            for (at[1] = 0; at[1] < values.get(1).size(); at[1]++) {
                for (at[2] = 0; at[2] < values.get(2).size(); at[2]++) {
                    for (at[3] = 0; at[3] < values.get(3).size(); at[3]++) {
                        packets.add(packetAt(values, at));
                    }
                }
            }
        }
        return packets;
    }

    private static int[] packetAt(List<List<Integer>> values, int[] at) {
        int[] packet = {0, 0, 0, 0, 1};
        for (int f = 0; f < 4; f++) {
            List<Integer> all = values.get(f);
            packet[f] = all.get(at[f]);
            packet[4] *= (at[f] + 1 < all.size() ? all.get(at[f] + 1) : VALUES[f]) - packet[f];
        }
        return packet;
    }

    /** The values at which a range begins or has ended: those between are as the one ahead of them. */
    private List<Integer> valuesOf(int field) {
        TreeSet<Integer> values = new TreeSet<>();
        values.add(0);
        for (List<int[]> rules : lists) {
            for (int[] rule : rules) {
                values.add(rule[1 + 2 * field]);
                values.add(Math.min(rule[2 + 2 * field] + 1, VALUES[field] - 1));
            }
        }
        return new ArrayList<>(values);
    }

    private int verdictFor(int list, int[] packet) {
        int i = firstFor(list, packet);
        return i < 0 ? 0 : lists.get(list).get(i)[0];
    }

    private int firstFor(int list, int[] packet) {
        List<int[]> rules = lists.get(list);
        for (int i = 0; i < rules.size(); i++) {
            int[] rule = rules.get(i);
            boolean matches = true;
            for (int f = 0; f < 4; f++) {
                matches &= packet[f] >= rule[1 + 2 * f] && packet[f] <= rule[2 + 2 * f];
            }
            if (matches) {
                return i;
            }
        }
        return -1;
    }

    private List<int[]> listOf(int list) {
        if (list < 0 || list > 1) {
            throw new IndexOutOfBoundsException();
        }
        return lists.get(list);
    }

    private int[] ruleOf(int list, int i) {
        require(listOf(list) != null && i >= 0 && i < rules(list));
        return listOf(list).get(i);
    }

    private static void require(boolean so) {
        if (!so) {
            throw new IllegalArgumentException();
        }
    }
}
