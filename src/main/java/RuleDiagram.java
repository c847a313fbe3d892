import java.util.Arrays;

/** Two lists of rules for packets, read from texts and compiled into diagrams, and a gate that lets answers through. */
public final class RuleDiagram {
    public static final int NONE = -1;

    private static final int LISTS = 2;
    private static final int MOST_RULES = 8;
    private static final int FIELDS = 4;
    private static final int VERDICTS = 3;
    private static final int DENY = 0;
    private static final int MOST_SIGNS = 240;
    private static final int SIGNS_A_CALL = 4;
    private static final int MOST_DIGITS = 4;
    private static final int TOO_MANY_RULES = -1000;
    private static final int MOST_CONNECTIONS = 4;
    private static final int KNOWN = 3;

    /** A rule's numbers are asked for as: its verdict, then the least and greatest value of each field. */
    private static final int RULE_NUMBERS = 1 + 2 * FIELDS;

    private static final int[] BITS = {8, 8, 10, 2};

    /** A packet is one number with the fields in their order, source highest, so that packets sort as the document does. */
    private static final int[] SHIFTS = {20, 12, 2, 0};

    private final Text text;
    private final RuleReader reader;
    private final RuleList[] lists;
    private final Diagram[] diagrams;
    private final Comparison comparison;
    private final Gate gate;

    public RuleDiagram() {
        text = new Text();
        reader = new RuleReader(text);
        lists = new RuleList[LISTS];
        diagrams = new Diagram[LISTS];
        for (int list = 0; list < LISTS; list++) {
            lists[list] = new RuleList();
            diagrams[list] = new Diagram(lists[list]);
        }
        comparison = new Comparison(lists[0], lists[1]);
        gate = new Gate();
    }

    public int put(int signs) throws IllegalArgumentException, UnsupportedOperationException {
        if (!Text.areSigns(signs)) {
            throw new IllegalArgumentException("a sign above 127");
        }
        if (!text.hasRoomFor(signs)) {
            throw new UnsupportedOperationException("more than 240 signs");
        }
        text.append(signs);
        return text.length();
    }

    public int read(int list) throws IndexOutOfBoundsException {
        requireList(list);
        int found = reader.readText();
        text.clear();
        if (found < 0) {
            return found;
        }
        if (found > lists[list].room()) {
            return TOO_MANY_RULES;
        }
        for (int i = 0; i < found; i++) {
            lists[list].append(reader.found(i));
        }
        return found;
    }

    public void remove(int list, int i) throws IndexOutOfBoundsException, IllegalArgumentException {
        requireRule(list, i);
        lists[list].takeOut(i);
    }

    public void swap(int list, int i) throws IndexOutOfBoundsException, IllegalArgumentException {
        requireRule(list, i);
        requireRule(list, i + 1);
        lists[list].exchange(i);
    }

    public int rules(int list) throws IndexOutOfBoundsException {
        requireList(list);
        return lists[list].size();
    }

    public int rule(int list, int i, int what) throws IndexOutOfBoundsException, IllegalArgumentException {
        requireRule(list, i);
        if (what < 0 || what >= RULE_NUMBERS) {
            throw new IllegalArgumentException("no such number of a rule");
        }
        return lists[list].at(i).number(what);
    }

    public int verdict(int list, int source, int target, int port, int protocol)
            throws IndexOutOfBoundsException, IllegalArgumentException {
        requireList(list);
        return lists[list].judge(packetOf(source, target, port, protocol));
    }

    public int first(int list, int source, int target, int port, int protocol)
            throws IndexOutOfBoundsException, IllegalArgumentException {
        requireList(list);
        return lists[list].firstFor(packetOf(source, target, port, protocol));
    }

    public int count(int list, int verdict) throws IndexOutOfBoundsException, IllegalArgumentException {
        requireList(list);
        if (verdict < 0 || verdict >= VERDICTS) {
            throw new IllegalArgumentException("no such verdict");
        }
        diagrams[list].compile();
        return diagrams[list].packetsWith(verdict);
    }

    public int nodes(int list, int field) throws IndexOutOfBoundsException, IllegalArgumentException {
        requireList(list);
        requireField(field);
        diagrams[list].compile();
        diagrams[list].uniteTables();
        return diagrams[list].nodesOf(field);
    }

    public int edges(int list) throws IndexOutOfBoundsException {
        requireList(list);
        diagrams[list].compile();
        diagrams[list].uniteTables();
        int sum = 0;
        for (int field = 0; field < FIELDS; field++) {
            sum += diagrams[list].edgesOf(field);
        }
        return sum;
    }

    public int differing() {
        comparison.compile();
        return comparison.unlikePackets();
    }

    public int witness(int field) throws IllegalArgumentException {
        requireField(field);
        comparison.compile();
        int packet = comparison.firstUnlike();
        return packet == NONE ? NONE : valueOf(packet, field);
    }

    public int used(int list, int i) throws IndexOutOfBoundsException, IllegalArgumentException {
        requireRule(list, i);
        diagrams[list].compile();
        return diagrams[list].packetsOf(i);
    }

    public int prune(int list) throws IndexOutOfBoundsException {
        requireList(list);
        diagrams[list].compile();
        int gone = 0;
        // From the last rule to the first, so that those still to be looked at keep the numbers that were compiled.
        for (int i = lists[list].size() - 1; i >= 0; i--) {
            if (diagrams[list].packetsOf(i) == 0) {
                lists[list].takeOut(i);
                gone++;
            }
        }
        return gone;
    }

    public int pass(int list, int source, int target, int port, int protocol)
            throws IndexOutOfBoundsException, IllegalArgumentException {
        requireList(list);
        int packet = packetOf(source, target, port, protocol);
        int k = gate.connectionOf(packet);
        if (k != NONE) {
            gate.renew(k);
            return KNOWN;
        }
        int verdict = lists[list].judge(packet);
        if (verdict != DENY) {
            gate.open(packet);
        }
        return verdict;
    }

    public int connection(int k, int f) throws IllegalArgumentException {
        requireField(f);
        return gate.has(k) ? valueOf(gate.at(k), f) : NONE;
    }

    private void requireList(int list) {
        if (list < 0 || list >= LISTS) {
            throw new IndexOutOfBoundsException("no such list");
        }
    }

    private void requireRule(int list, int i) {
        requireList(list);
        if (!lists[list].has(i)) {
            throw new IllegalArgumentException("no such rule");
        }
    }

    private static void requireField(int field) {
        if (field < 0 || field >= FIELDS) {
            throw new IllegalArgumentException("no such field");
        }
    }

    private static void requireValue(int field, int value) {
        if (value < 0 || value > greatestOf(field)) {
            throw new IllegalArgumentException("no such value of a field");
        }
    }

    private static int packetOf(int source, int target, int port, int protocol) {
        requireValue(0, source);
        requireValue(1, target);
        requireValue(2, port);
        requireValue(3, protocol);
        return joined(source, target, port, protocol);
    }

    private static int joined(int source, int target, int port, int protocol) {
        return source << SHIFTS[0] | target << SHIFTS[1] | port << SHIFTS[2] | protocol << SHIFTS[3];
    }

    private static int valueOf(int packet, int field) {
        return packet >>> SHIFTS[field] & greatestOf(field);
    }

    private static int greatestOf(int field) {
        return (1 << BITS[field]) - 1;
    }

    /** The least number in a set of numbers, which is held as bits; the set isn't empty. */
    private static int leastIn(int set) {
        return Integer.bitCount((set & -set) - 1);
    }

    /** The signs that have been put and not yet been read. */
    private static final class Text {
        static final int END = 0;
        static final int BLANK = 1;
        static final int LETTER = 2;
        static final int DIGIT = 3;
        static final int OTHER = 4;

        private final char[] signs;
        private int size;

        Text() {
            signs = new char[MOST_SIGNS];
            size = 0;
        }

        static boolean areSigns(int four) {
            return (four & 0x80808080) == 0;
        }

        static int signOf(int four, int place) {
            return four >>> 8 * place & 255;
        }

        int length() {
            return size;
        }

        boolean hasRoomFor(int four) {
            int more = 0;
            for (int i = 0; i < SIGNS_A_CALL; i++) {
                if (signOf(four, i) != 0) {
                    more++;
                }
            }
            return size + more <= MOST_SIGNS;
        }

        void append(int four) {
            for (int i = 0; i < SIGNS_A_CALL; i++) {
                int sign = signOf(four, i);
                if (sign != 0 && size < MOST_SIGNS) {
                    signs[size] = (char) sign;
                    size++;
                }
            }
        }

        void clear() {
            size = 0;
        }

        char at(int place) {
            return signs[place];
        }

        int kindAt(int place) {
            if (place >= size) {
                return END;
            }
            char sign = signs[place];
            if (sign == ' ' || sign == '\n') {
                return BLANK;
            }
            if (sign >= 'a' && sign <= 'z') {
                return LETTER;
            }
            return sign >= '0' && sign <= '9' ? DIGIT : OTHER;
        }

        /** The first place from a place on whose sign is not of a kind. */
        int behind(int place, int kind) {
            for (int i = place; i < size; i++) {
                if (kindAt(i) != kind) {
                    return i;
                }
            }
            return size;
        }
    }

    /** Goes through a text by its words, numbers and other signs; behind the last of them stands an empty piece. */
    private static final class Pieces {
        private final Text text;
        private int start;
        private int end;
        private int kind;

        Pieces(Text text) {
            this.text = text;
        }

        void restart() {
            end = 0;
            step();
        }

        void step() {
            start = text.behind(end, Text.BLANK);
            kind = text.kindAt(start);
            if (kind == Text.LETTER || kind == Text.DIGIT) {
                end = text.behind(start, kind);
            } else {
                end = kind == Text.END ? start : start + 1;
            }
        }

        int place() {
            return start;
        }

        boolean isEnd() {
            return kind == Text.END;
        }

        boolean isSign(char sign) {
            return kind == Text.OTHER && text.at(start) == sign;
        }

        boolean isWord(String word) {
            if (kind != Text.LETTER || end - start != word.length()) {
                return false;
            }
            for (int i = 0; i < word.length(); i++) {
                if (text.at(start + i) != word.charAt(i)) {
                    return false;
                }
            }
            return true;
        }

        boolean isNumber(int least, int greatest) {
            if (kind != Text.DIGIT || end - start > MOST_DIGITS) {
                return false;
            }
            int number = number();
            return number >= least && number <= greatest;
        }

        int number() {
            int number = 0;
            for (int i = start; i < end; i++) {
                number = 10 * number + (text.at(i) - '0');
            }
            return number;
        }
    }

    /** Reads the rules of a text. Each of its steps stops at the piece that is the fault, if there is one. */
    private static final class RuleReader {
        private final Pieces pieces;
        private final Rule[] found;
        private int told;

        RuleReader(Text text) {
            pieces = new Pieces(text);
            found = new Rule[MOST_RULES];
            for (int i = 0; i < MOST_RULES; i++) {
                found[i] = new Rule();
            }
        }

        Rule found(int i) {
            return found[i];
        }

        /** How many rules the text has; if it has a fault, -1 and as much less as its place. */
        int readText() {
            pieces.restart();
            int count = 0;
            while (count < MOST_SIGNS && !pieces.isEnd()) {
                // Too many rules are refused whole, but read on over the last one: a fault may stand behind them.
                if (!readRule(found[Math.min(count, MOST_RULES - 1)])) {
                    return -1 - pieces.place();
                }
                count++;
            }
            return count;
        }

        private boolean readRule(Rule rule) {
            int verdict = verdictHere();
            if (verdict == NONE) {
                return false;
            }
            pieces.step();
            rule.start(verdict);
            told = 0;
            for (int i = 0; i < FIELDS && !pieces.isSign(';'); i++) {
                int field = readName();
                if (field == NONE || !readRange(rule, field)) {
                    return false;
                }
            }
            return skipSign(';');
        }

        /** The field that is told next; NONE if there is none, or if it has been told in this rule. */
        private int readName() {
            int field = fieldHere();
            if (field == NONE || (told >> field & 1) == 1) {
                return NONE;
            }
            told |= 1 << field;
            pieces.step();
            return field;
        }

        private boolean readRange(Rule rule, int field) {
            if (pieces.isWord("any")) {
                pieces.step();
                return true;
            }
            if (!pieces.isNumber(0, greatestOf(field))) {
                return false;
            }
            int value = pieces.number();
            pieces.step();
            if (skipSign('-')) {
                return readGreatest(rule, field, value);
            }
            if (skipSign('/')) {
                return readHighBits(rule, field, value);
            }
            rule.narrow(field, value, value);
            return true;
        }

        private boolean readGreatest(Rule rule, int field, int least) {
            if (!pieces.isNumber(least, greatestOf(field))) {
                return false;
            }
            rule.narrow(field, least, pieces.number());
            pieces.step();
            return true;
        }

        private boolean readHighBits(Rule rule, int field, int value) {
            if (!pieces.isNumber(0, BITS[field])) {
                return false;
            }
            int lowBits = BITS[field] - pieces.number();
            int least = value >> lowBits << lowBits;
            rule.narrow(field, least, least + (1 << lowBits) - 1);
            pieces.step();
            return true;
        }

        private boolean skipSign(char sign) {
            if (!pieces.isSign(sign)) {
                return false;
            }
            pieces.step();
            return true;
        }

        private int verdictHere() {
            for (int verdict = 0; verdict < VERDICTS; verdict++) {
                if (pieces.isWord(verdictName(verdict))) {
                    return verdict;
                }
            }
            return NONE;
        }

        private int fieldHere() {
            for (int field = 0; field < FIELDS; field++) {
                if (pieces.isWord(fieldName(field))) {
                    return field;
                }
            }
            return NONE;
        }

        private static String verdictName(int verdict) {
            switch (verdict) {
                case 0: return "deny";
                case 1: return "allow";
                default: return "log";
            }
        }

        private static String fieldName(int field) {
            switch (field) {
                case 0: return "src";
                case 1: return "dst";
                case 2: return "port";
                default: return "proto";
            }
        }
    }

    /** A verdict and the range of each field. */
    private static final class Rule {
        private final int[] least;
        private final int[] greatest;
        private int verdict;

        Rule() {
            least = new int[FIELDS];
            greatest = new int[FIELDS];
            verdict = DENY;
        }

        /** Makes this a rule that matches every packet. */
        void start(int newVerdict) {
            verdict = newVerdict;
            for (int field = 0; field < FIELDS; field++) {
                narrow(field, 0, greatestOf(field));
            }
        }

        void narrow(int field, int newLeast, int newGreatest) {
            least[field] = newLeast;
            greatest[field] = newGreatest;
        }

        void copyFrom(Rule other) {
            verdict = other.verdict;
            for (int field = 0; field < FIELDS; field++) {
                narrow(field, other.least[field], other.greatest[field]);
            }
        }

        int judgement() {
            return verdict;
        }

        int leastOf(int field) {
            return least[field];
        }

        int behindGreatestOf(int field) {
            return greatest[field] + 1;
        }

        boolean matchesValue(int field, int value) {
            return value >= least[field] && value <= greatest[field];
        }

        boolean matches(int packet) {
            for (int field = 0; field < FIELDS; field++) {
                if (!matchesValue(field, valueOf(packet, field))) {
                    return false;
                }
            }
            return true;
        }

        int number(int what) {
            if (what == 0) {
                return verdict;
            }
            int field = (what - 1) / 2;
            return what % 2 == 1 ? least[field] : greatest[field];
        }
    }

    /** Rules in their order. */
    private static final class RuleList {
        private final Rule[] rules;
        private int size;

        RuleList() {
            rules = new Rule[MOST_RULES];
            for (int i = 0; i < MOST_RULES; i++) {
                rules[i] = new Rule();
            }
            size = 0;
        }

        int size() {
            return size;
        }

        int room() {
            return MOST_RULES - size;
        }

        boolean has(int i) {
            return i >= 0 && i < size;
        }

        Rule at(int i) {
            return rules[i];
        }

        void append(Rule rule) {
            if (size < MOST_RULES) {
                rules[size].copyFrom(rule);
                size++;
            }
        }

        /** The rule's object goes behind the others, to be filled anew. */
        void takeOut(int i) {
            for (int k = i; k + 1 < size; k++) {
                exchange(k);
            }
            size--;
        }

        void exchange(int i) {
            Rule rule = rules[i];
            rules[i] = rules[i + 1];
            rules[i + 1] = rule;
        }

        int firstFor(int packet) {
            for (int i = 0; i < size; i++) {
                if (rules[i].matches(packet)) {
                    return i;
                }
            }
            return NONE;
        }

        int judge(int packet) {
            int i = firstFor(packet);
            return i == NONE ? DENY : rules[i].judgement();
        }

        /** The verdict of packets that a set of rules matches, and no other rule. */
        int judgeSet(int set) {
            return set == 0 ? DENY : rules[leastIn(set)].judgement();
        }

        /** The set of the rules that a field's value agrees with. */
        int agreeing(int field, int value) {
            int set = 0;
            for (int i = 0; i < size; i++) {
                if (rules[i].matchesValue(field, value)) {
                    set |= 1 << i;
                }
            }
            return set;
        }
    }

    /** The values of a field in rows, one behind the other, such that all values of a row agree with the same rules. */
    private static final class Cut {
        private final int field;
        private final int[] starts;
        private final int[] sets;
        private int size;

        Cut(int field, int mostRules) {
            this.field = field;
            starts = new int[1 + 2 * mostRules];
            sets = new int[1 + 2 * mostRules];
            size = 1;
        }

        /** One row of all values, which no rule cuts yet. */
        void clear() {
            size = 1;
            Arrays.fill(sets, 0);
        }

        void cutBy(RuleList list) {
            for (int i = 0; i < list.size(); i++) {
                startRow(list.at(i).leastOf(field));
                startRow(list.at(i).behindGreatestOf(field));
            }
        }

        /** Says of each row which rules of a list agree with it, from a bit of the row's set on. */
        void mark(RuleList list, int bit) {
            for (int row = 0; row < size; row++) {
                sets[row] |= list.agreeing(field, starts[row]) << bit;
            }
        }

        int size() {
            return size;
        }

        int start(int row) {
            return starts[row];
        }

        int set(int row) {
            return sets[row];
        }

        int width(int row) {
            int next = row + 1 < size ? starts[row + 1] : greatestOf(field) + 1;
            return next - starts[row];
        }

        private void startRow(int value) {
            int row = 0;
            while (row < size && starts[row] < value) {
                row++;
            }
            boolean known = row < size && starts[row] == value;
            if (known || value > greatestOf(field) || size >= starts.length) {
                return;
            }
            System.arraycopy(starts, row, starts, row + 1, size - row);
            starts[row] = value;
            size++;
        }
    }

    /**
     * The diagram of a list. A table is named by the set of rules that agree with the values of the fields ahead of it,
     * since values that agree with the same rules have the same table. Tables of different names may still be alike.
     */
    private static final class Diagram {
        private final RuleList list;
        private final Cut[] cuts;
        private final int[][] ways;
        private final int[][] likes;
        private int sets;

        Diagram(RuleList list) {
            this.list = list;
            cuts = new Cut[FIELDS];
            for (int field = 0; field < FIELDS; field++) {
                cuts[field] = new Cut(field, MOST_RULES);
            }
            ways = new int[FIELDS + 1][1 << MOST_RULES];
            likes = new int[FIELDS + 1][1 << MOST_RULES];
            sets = 1;
        }

        /** To be called ahead of all other methods, and again when the list has changed. */
        void compile() {
            sets = 1 << list.size();
            for (int field = 0; field < FIELDS; field++) {
                cuts[field].clear();
                cuts[field].cutBy(list);
                cuts[field].mark(list, 0);
            }
            countWays();
        }

        int packetsWith(int verdict) {
            int sum = 0;
            for (int set = 0; set < sets; set++) {
                if (list.judgeSet(set) == verdict) {
                    sum += ways[FIELDS][set];
                }
            }
            return sum;
        }

        int packetsOf(int rule) {
            int sum = 0;
            for (int set = 1; set < sets; set++) {
                if (leastIn(set) == rule) {
                    sum += ways[FIELDS][set];
                }
            }
            return sum;
        }

        /** Finds for each table the first one that is like it; to be called ahead of nodesOf and edgesOf. */
        void uniteTables() {
            for (int set = 0; set < sets; set++) {
                likes[FIELDS][set] = list.judgeSet(set);
            }
            for (int field = FIELDS - 1; field >= 0; field--) {
                for (int set = 0; set < sets; set++) {
                    if (isTable(field, set)) {
                        likes[field][set] = firstLike(field, set);
                    }
                }
            }
        }

        int nodesOf(int field) {
            int sum = 0;
            for (int set = 0; set < sets; set++) {
                if (isNode(field, set)) {
                    sum++;
                }
            }
            return sum;
        }

        int edgesOf(int field) {
            int sum = 0;
            for (int set = 0; set < sets; set++) {
                if (isNode(field, set)) {
                    sum += rowsOf(field, set);
                }
            }
            return sum;
        }

        /** By how many values of the fields ahead each table is come to. */
        private void countWays() {
            for (int field = 0; field <= FIELDS; field++) {
                Arrays.fill(ways[field], 0);
            }
            ways[0][sets - 1] = 1;
            for (int field = 0; field < FIELDS; field++) {
                for (int set = 0; set < sets; set++) {
                    if (isTable(field, set)) {
                        countWaysBehind(field, set);
                    }
                }
            }
        }

        private void countWaysBehind(int field, int set) {
            Cut cut = cuts[field];
            for (int row = 0; row < cut.size(); row++) {
                ways[field + 1][set & cut.set(row)] += ways[field][set] * cut.width(row);
            }
        }

        private boolean isTable(int field, int set) {
            return ways[field][set] > 0;
        }

        private boolean isNode(int field, int set) {
            return isTable(field, set) && likes[field][set] == set && rowsOf(field, set) > 1;
        }

        private int firstLike(int field, int set) {
            for (int other = 0; other < set; other++) {
                if (isTable(field, other) && likes[field][other] == other && areAlike(field, other, set)) {
                    return other;
                }
            }
            return set;
        }

        private boolean areAlike(int field, int one, int other) {
            for (int row = 0; row < cuts[field].size(); row++) {
                if (restOf(field, one, row) != restOf(field, other, row)) {
                    return false;
                }
            }
            return true;
        }

        private int rowsOf(int field, int set) {
            int rows = 1;
            for (int row = 1; row < cuts[field].size(); row++) {
                if (restOf(field, set, row) != restOf(field, set, row - 1)) {
                    rows++;
                }
            }
            return rows;
        }

        /** What is left of a table in a row of values of its field: the same number for tables that are alike. */
        private int restOf(int field, int set, int row) {
            return likes[field + 1][set & cuts[field].set(row)];
        }
    }

    /** Both lists set against one another. A set holds the rules of the one in its low bits, of the other above them. */
    private static final class Comparison {
        private final RuleList low;
        private final RuleList high;
        private final Cut[] cuts;

        Comparison(RuleList low, RuleList high) {
            this.low = low;
            this.high = high;
            cuts = new Cut[FIELDS];
            for (int field = 0; field < FIELDS; field++) {
                cuts[field] = new Cut(field, LISTS * MOST_RULES);
            }
        }

        /** To be called ahead of all other methods, and again when a list has changed. */
        void compile() {
            for (int field = 0; field < FIELDS; field++) {
                cuts[field].clear();
                cuts[field].cutBy(low);
                cuts[field].cutBy(high);
                cuts[field].mark(low, 0);
                cuts[field].mark(high, MOST_RULES);
            }
        }

        int unlikePackets() {
            return unlikeFrom(this, 0, everyRule());
        }

        int firstUnlike() {
            int packet = 0;
            int set = everyRule();
            for (int field = 0; field < FIELDS; field++) {
                int row = firstUnlikeRow(field, set);
                if (row == NONE) {
                    return NONE;
                }
                packet |= cuts[field].start(row) << SHIFTS[field];
                set &= cuts[field].set(row);
            }
            return packet;
        }

        private int firstUnlikeRow(int field, int set) {
            for (int row = 0; row < cuts[field].size(); row++) {
                if (unlikeFrom(this, field + 1, set & cuts[field].set(row)) > 0) {
                    return row;
                }
            }
            return NONE;
        }

        /** How many values of the fields from one on have different verdicts, if those ahead agree with a set of rules. */
        private static int unlikeFrom(Comparison both, int field, int set) {
            if (set == 0) {
                return 0;
            }
            if (field >= FIELDS) {
                return both.judgesUnlike(set) ? 1 : 0;
            }
            Cut cut = both.cuts[field];
            int sum = 0;
            int last = 0;
            int unlikeOfLast = 0;
            for (int row = 0; row < cut.size(); row++) {
                int rest = set & cut.set(row);
                // Rows that only rules out of the set hold apart are counted once: else the work grows with all rules.
                if (rest != last) {
                    last = rest;
                    unlikeOfLast = unlikeFrom(both, field + 1, rest);
                }
                sum += unlikeOfLast * cut.width(row);
            }
            return sum;
        }

        private boolean judgesUnlike(int set) {
            int ofLow = set & (1 << MOST_RULES) - 1;
            int ofHigh = set >>> MOST_RULES;
            return low.judgeSet(ofLow) != high.judgeSet(ofHigh);
        }

        private static int everyRule() {
            return (1 << LISTS * MOST_RULES) - 1;
        }
    }

    /** The connections, the oldest one first. */
    private static final class Gate {
        private final int[] connections;
        private int size;

        Gate() {
            connections = new int[MOST_CONNECTIONS];
            size = 0;
        }

        boolean has(int k) {
            return k >= 0 && k < size;
        }

        int at(int k) {
            return connections[k];
        }

        /** The connection that a packet belongs to or is an answer to; NONE. */
        int connectionOf(int packet) {
            int answered = joined(valueOf(packet, 1), valueOf(packet, 0), valueOf(packet, 2), valueOf(packet, 3));
            for (int k = 0; k < size; k++) {
                if (connections[k] == packet || connections[k] == answered) {
                    return k;
                }
            }
            return NONE;
        }

        void renew(int k) {
            int connection = connections[k];
            close(k);
            open(connection);
        }

        void open(int packet) {
            if (size >= MOST_CONNECTIONS) {
                close(0);
            }
            connections[size] = packet;
            size++;
        }

        private void close(int k) {
            for (int i = k; i + 1 < size; i++) {
                connections[i] = connections[i + 1];
            }
            size--;
        }
    }
}
