/**
 * Calls that throw: which exception comes, which one ahead of which, and that nothing has changed. Each is made on an
 * object that has nothing yet, on one that has something of all, and on one that is full; what that object then answers
 * is set against the answers of one that was made alike and not asked.
 */
final class RefusalTest {
    private static final int MIN = Check.MIN;
    private static final int MAX = Check.MAX;
    private static final int[] NO_LIST = {-1, 2, 3, MIN, MAX};
    private static final int[] GREATEST = {255, 255, 1023, 3};
    private static final String NOTHING = "A call that throws changes nothing.";
    private static final String[] STATES = {"empty", "begun", "full"};

    /** A call of the program on an object. */
    private interface Use {
        void on(RuleDiagram x);
    }

    private final int state;
    private final String due;
    private final int[] sizes;

    private RefusalTest(int state) {
        this.state = state;
        RuleDiagram x = made(state);
        sizes = new int[] {x.rules(0), x.rules(1)};
        due = told(made(state));
    }

    public static void main(String[] args) {
        Check.sentence(NOTHING);
        for (int state = 0; state < STATES.length; state++) {
            RefusalTest test = new RefusalTest(state);
            test.signsAbove();
            test.noSuchList();
            test.listAheadOfAllElse();
            test.noSuchRule();
            test.noSuchSwap();
            test.noSuchNumberOfARule();
            test.noSuchValue();
            test.noSuchVerdict();
            test.noSuchField();
        }
        tooManySigns();
        signsAheadOfTooMany();
        Check.end();
    }

    private static RuleDiagram made(int state) {
        RuleDiagram x = new RuleDiagram();
        if (state == 1) {
            Check.read(x, 0, "log src 1-9;allow src 5 dst 6;deny port 7;");
            Check.read(x, 1, "allow proto 1;");
            x.pass(0, 1, 2, 3, 0);
            x.pass(0, 4, 5, 6, 1);
            Check.put(x, "log src 3;deny;");
        }
        if (state == 2) {
            Check.read(x, 0, "log src 1;log src 2;log src 1;deny dst 4;log dst 5;deny port 6;allow port 7;log;");
            Check.read(x, 1, "allow;log;deny;allow;log;deny;allow;log;");
            for (int i = 0; i < 4; i++) {
                x.pass(0, 1, i, 3, 0);
            }
            Check.put(x, "log src 3;" + " ".repeat(225) + "deny;");
        }
        return x;
    }

    /** All that an object answers, its text and its gate too, though that changes them. */
    private static String told(RuleDiagram x) {
        StringBuilder told = new StringBuilder(Check.look(x)).append('|');
        for (int list = 0; list < 2; list++) {
            for (int field = 0; field < 4; field++) {
                told.append(x.nodes(list, field)).append(' ');
            }
            told.append(x.edges(list)).append(' ').append(x.count(list, 1)).append(' ').append(x.prune(list)).append('|');
        }
        told.append(x.differing()).append(' ').append(x.witness(0)).append('|');
        for (int i = x.rules(1) - 1; i >= 0; i--) {
            x.remove(1, i);
        }
        told.append(x.read(1)).append(' ').append(Check.show(x, 1)).append('|');
        told.append(x.pass(1, 2, 1, 3, 0)).append(x.pass(1, 3, 9, 9, 1)).append(' ').append(Check.connections(x));
        return told.toString();
    }

    private void refuses(String call, Class<?> exception, Use use) {
        RuleDiagram x = made(state);
        String what = call + " of an object that is " + STATES[state];
        Check.fails(what, exception, () -> use.on(x));
        Check.same(NOTHING + " But what is told behind " + what, told(x), due);
    }

    private void signsAbove() {
        Check.sentence("IllegalArgumentException if a byte is above 127");
        for (int place = 0; place < 4; place++) {
            for (int sign : new int[] {128, 129, 255}) {
                int alone = sign << 8 * place;
                int among = alone | 0x20202020 & ~(255 << 8 * place);
                refuses("put(" + alone + ")", Check.ARGUMENT, x -> x.put(alone));
                refuses("put(" + among + ")", Check.ARGUMENT, x -> x.put(among));
            }
        }
        refuses("put(-1)", Check.ARGUMENT, x -> x.put(-1));
        refuses("put(MIN)", Check.ARGUMENT, x -> x.put(MIN));
    }

    private void noSuchList() {
        Check.sentence("IndexOutOfBoundsException if there is no such list");
        for (int list : NO_LIST) {
            refuses("read(" + list + ")", Check.BOUNDS, x -> x.read(list));
            refuses("remove(" + list + ", 0)", Check.BOUNDS, x -> x.remove(list, 0));
            refuses("swap(" + list + ", 0)", Check.BOUNDS, x -> x.swap(list, 0));
            refuses("rules(" + list + ")", Check.BOUNDS, x -> x.rules(list));
            refuses("rule(" + list + ", 0, 0)", Check.BOUNDS, x -> x.rule(list, 0, 0));
            refuses("verdict(" + list + ", ..)", Check.BOUNDS, x -> x.verdict(list, 1, 2, 3, 0));
            refuses("first(" + list + ", ..)", Check.BOUNDS, x -> x.first(list, 1, 2, 3, 0));
            refuses("count(" + list + ", 0)", Check.BOUNDS, x -> x.count(list, 0));
            refuses("nodes(" + list + ", 0)", Check.BOUNDS, x -> x.nodes(list, 0));
            refuses("edges(" + list + ")", Check.BOUNDS, x -> x.edges(list));
            refuses("used(" + list + ", 0)", Check.BOUNDS, x -> x.used(list, 0));
            refuses("prune(" + list + ")", Check.BOUNDS, x -> x.prune(list));
            // By no list even a packet that belongs to a connection is refused.
            refuses("pass(" + list + ", ..)", Check.BOUNDS, x -> x.pass(list, 1, 2, 3, 0));
        }
    }

    private void listAheadOfAllElse() {
        Check.sentence("IndexOutOfBoundsException if there is no such list, ahead of all else");
        for (int list : NO_LIST) {
            for (int wrong : new int[] {-1, 1024, MIN, MAX}) {
                refuses("remove", Check.BOUNDS, x -> x.remove(list, wrong));
                refuses("swap", Check.BOUNDS, x -> x.swap(list, wrong));
                refuses("rule", Check.BOUNDS, x -> x.rule(list, wrong, 0));
                refuses("rule", Check.BOUNDS, x -> x.rule(list, 0, wrong));
                refuses("count", Check.BOUNDS, x -> x.count(list, wrong));
                refuses("nodes", Check.BOUNDS, x -> x.nodes(list, wrong));
                refuses("used", Check.BOUNDS, x -> x.used(list, wrong));
                for (int field = 0; field < 4; field++) {
                    int[] p = withValue(field, wrong);
                    refuses("verdict", Check.BOUNDS, x -> Check.verdict(x, list, p));
                    refuses("first", Check.BOUNDS, x -> Check.first(x, list, p));
                    refuses("pass", Check.BOUNDS, x -> Check.pass(x, list, p));
                }
            }
        }
    }

    private void noSuchRule() {
        Check.sentence("IllegalArgumentException if there is no such rule.");
        for (int list = 0; list < 2; list++) {
            int of = list;
            for (int i : new int[] {-1, sizes[list], sizes[list] + 1, 8, MIN, MAX}) {
                refuses("remove(" + of + ", " + i + ")", Check.ARGUMENT, x -> x.remove(of, i));
                refuses("used(" + of + ", " + i + ")", Check.ARGUMENT, x -> x.used(of, i));
                for (int what : new int[] {0, 8, 9}) {
                    refuses("rule(" + of + ", " + i + ", " + what + ")", Check.ARGUMENT, x -> x.rule(of, i, what));
                }
            }
        }
    }

    private void noSuchSwap() {
        Check.sentence("IllegalArgumentException if one of them isn't there.");
        for (int list = 0; list < 2; list++) {
            int of = list;
            // The greatest number has none behind it: one more would wrap around.
            for (int i : new int[] {-2, -1, sizes[list] - 1, sizes[list], 7, 8, MIN, MAX - 1, MAX}) {
                refuses("swap(" + of + ", " + i + ")", Check.ARGUMENT, x -> x.swap(of, i));
            }
        }
    }

    private void noSuchNumberOfARule() {
        Check.sentence("IllegalArgumentException if there is no such rule or what.");
        for (int list = 0; list < 2; list++) {
            int of = list;
            for (int what : new int[] {-1, 9, 10, MIN, MAX}) {
                for (int i = 0; i < Math.max(1, sizes[list]); i++) {
                    int rule = i;
                    refuses("rule(" + of + ", " + rule + ", " + what + ")", Check.ARGUMENT, x -> x.rule(of, rule, what));
                }
            }
        }
    }

    private void noSuchValue() {
        Check.sentence("then IllegalArgumentException if a field's value is not as it must be");
        for (int field = 0; field < 4; field++) {
            for (int value : new int[] {-1, GREATEST[field] + 1, -GREATEST[field], MIN, MAX}) {
                int[] p = withValue(field, value);
                for (int list = 0; list < 2; list++) {
                    int of = list;
                    String packet = "(" + of + ", " + p[0] + ", " + p[1] + ", " + p[2] + ", " + p[3] + ")";
                    refuses("verdict" + packet, Check.ARGUMENT, x -> Check.verdict(x, of, p));
                    refuses("first" + packet, Check.ARGUMENT, x -> Check.first(x, of, p));
                    refuses("pass" + packet, Check.ARGUMENT, x -> Check.pass(x, of, p));
                }
            }
        }
        refuses("pass with all too great", Check.ARGUMENT, x -> x.pass(0, 256, 256, 1024, 4));
        refuses("pass with all too small", Check.ARGUMENT, x -> x.pass(0, -1, -1, -1, -1));
    }

    private void noSuchVerdict() {
        Check.sentence("IllegalArgumentException if there is no such verdict.");
        for (int verdict : new int[] {-1, 3, 4, MIN, MAX}) {
            refuses("count(0, " + verdict + ")", Check.ARGUMENT, x -> x.count(0, verdict));
            refuses("count(1, " + verdict + ")", Check.ARGUMENT, x -> x.count(1, verdict));
        }
    }

    private void noSuchField() {
        Check.sentence("IllegalArgumentException if there is no such field.");
        for (int field : new int[] {-1, 4, 5, MIN, MAX}) {
            refuses("nodes(0, " + field + ")", Check.ARGUMENT, x -> x.nodes(0, field));
            refuses("nodes(1, " + field + ")", Check.ARGUMENT, x -> x.nodes(1, field));
            refuses("witness(" + field + ")", Check.ARGUMENT, x -> x.witness(field));
            for (int k : new int[] {-1, 0, 3, 4, MAX}) {
                refuses("connection(" + k + ", " + field + ")", Check.ARGUMENT, x -> x.connection(k, field));
            }
        }
    }

    private static void tooManySigns() {
        Check.sentence("UnsupportedOperationException if there would be more than 240.");
        for (int length = 236; length <= 240; length++) {
            for (int zeros = 0; zeros < 16; zeros++) {
                int more = 4 - Integer.bitCount(zeros);
                int signs = fourWithout(zeros);
                RuleDiagram x = new RuleDiagram();
                Check.put(x, "log;" + " ".repeat(length - 4));
                String what = "put of " + more + " behind " + length;
                if (length + more > 240) {
                    Check.fails(what, Check.UNSUPPORTED, () -> x.put(signs));
                    Check.same("signs behind " + what, x.put(0), length);
                    Check.same("read behind " + what, x.read(0), 1);
                } else {
                    Check.same(what, x.put(signs), length + more);
                    Check.same("read behind " + what, x.read(0), more == 0 ? 1 : -1 - length);
                }
            }
        }
    }

    /** Not said outright, but told in this order: a wrong sign is looked for ahead of the room. */
    private static void signsAheadOfTooMany() {
        Check.sentence("IllegalArgumentException if a byte is above 127; UnsupportedOperationException if there would be more than 240.");
        RuleDiagram x = made(2);
        Check.fails("put of a wrong sign into a full text", Check.ARGUMENT, () -> x.put(128));
        Check.fails("put of a wrong sign behind three good ones", Check.ARGUMENT, () -> x.put(0x80616161));
        Check.fails("put of a good sign into a full text", Check.UNSUPPORTED, () -> x.put(127 << 24));
        Check.same("what is told", told(x), told(made(2)));
    }

    /** Four signs x, with a 0 for each bit of a number. */
    private static int fourWithout(int zeros) {
        int signs = 0;
        for (int place = 0; place < 4; place++) {
            signs |= (zeros >> place & 1) == 1 ? 0 : 'x' << 8 * place;
        }
        return signs;
    }

    private static int[] withValue(int field, int value) {
        int[] packet = {1, 2, 3, 0};
        packet[field] = value;
        return packet;
    }
}
