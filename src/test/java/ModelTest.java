import java.util.Arrays;
import java.util.Random;

/** Runs of calls drawn from fixed seeds, each answer set against that of the model: all promises together. */
final class ModelTest {
    private static final int RUNS = 400;
    private static final int CALLS = 512;

    /** A text of 240 signs, put four a call, and read. */
    private static final int MOST_CALLS_A_STEP = 61;

    private static final String[] NAMES = {"src", "dst", "port", "proto"};
    private static final String[] VERDICTS = {"deny", "allow", "log"};
    private static final String[] PIECES = {"deny", "allow", "log", "src", "dst", "port", "proto", "any", "-", "/", ";",
        "0", "3", "8", "255", "256", "1023", "1024", "00001", "x", "\t", "7"};

    private final Random random;
    private final RuleDiagram program = new RuleDiagram();
    private final Model model = new Model();
    private final int run;
    private int calls = 0;

    private ModelTest(int run) {
        this.run = run;
        random = new Random(run);
    }

    public static void main(String[] args) {
        fullest();
        Check.sentence("An object is used for at most 512 calls after it has been made");
        for (int run = 0; run < RUNS; run++) {
            ModelTest test = new ModelTest(run);
            while (test.calls < CALLS - MOST_CALLS_A_STEP) {
                test.step();
            }
            // One by one to the very last call that is promised.
            while (test.calls < CALLS) {
                test.look();
            }
        }
        Check.end();
    }

    /** Both lists full, and no two ranges of a field end at the same value: the most rows that there can be. */
    private static void fullest() {
        ModelTest test = new ModelTest(-1);
        for (int i = 0; i < 16; i++) {
            int least = 1 + 2 * (i * 7 % 16);
            String range = least + "-" + (254 - least);
            test.write(VERDICTS[i % 3] + " src " + range + " dst " + range + " port " + range + " proto " + i % 4 + "-3;");
            test.call("read", i % 2);
        }
        test.call("differing");
        for (int i = 0; i < 4; i++) {
            test.call("witness", i);
        }
        for (int list = 0; list < 2; list++) {
            for (int i = 0; i < 8; i++) {
                test.call("used", list, i);
                test.call(i < 3 ? "count" : i < 7 ? "nodes" : "edges", list, i < 3 ? i : i - 3);
            }
            test.call("prune", list);
            test.call("rules", list);
        }
    }

    private void step() {
        int kind = random.nextInt(100);
        if (kind < 6) {
            write(rulesText());
            call("read", edged(0, 1));
        } else if (kind < 9) {
            write(brokenText());
            call("read", random.nextInt(2));
        } else if (kind < 12) {
            call("put", random.nextInt());
        } else if (kind < 20) {
            call("remove", edged(0, 1), edged(0, 7));
        } else if (kind < 30) {
            call("swap", edged(0, 1), edged(0, 7));
        } else if (kind < 70) {
            look();
        } else if (kind < 73) {
            call("prune", edged(0, 1));
        } else if (kind < 90) {
            call("pass", edged(0, 1), value(0) % 4, value(1) % 4, value(2) % 2, edged(0, 3));
        } else {
            call("connection", edged(0, 3), edged(0, 3));
        }
    }

    private void look() {
        int list = edged(0, 1);
        int rule = edged(0, 7);
        int field = edged(0, 3);
        switch (random.nextInt(10)) {
            case 0 -> call("rules", list);
            case 1 -> call("rule", list, rule, edged(0, 8));
            case 2 -> call("verdict", list, edged(0, 255), value(1), value(2), value(3));
            case 3 -> call("first", list, value(0), value(1), edged(0, 1023), value(3));
            case 4 -> call("count", list, edged(0, 2));
            case 5 -> call("nodes", list, field);
            case 6 -> call("edges", list);
            case 7 -> call("differing");
            case 8 -> call("witness", field);
            default -> call("used", list, rule);
        }
    }

    private void write(String text) {
        for (int i = 0; i < text.length(); i += 4) {
            call("put", Check.four(text.substring(i, Math.min(i + 4, text.length()))));
        }
    }

    private void call(String name, int... a) {
        calls++;
        String got = answer(() -> ofProgram(name, a));
        String due = answer(() -> ofModel(name, a));
        Check.same("run " + run + ", call " + calls + ": " + name + Arrays.toString(a), got, due);
    }

    /** A call with its answer. */
    private interface Asked {
        int answer();
    }

    private static String answer(Asked asked) {
        try {
            return String.valueOf(asked.answer());
        } catch (RuntimeException e) {
            return e.getClass().getName();
        }
    }

    private int ofProgram(String name, int[] a) {
        RuleDiagram x = program;
        switch (name) {
            case "put": return x.put(a[0]);
            case "read": return x.read(a[0]);
            case "remove": x.remove(a[0], a[1]); return 0;
            case "swap": x.swap(a[0], a[1]); return 0;
            case "rules": return x.rules(a[0]);
            case "rule": return x.rule(a[0], a[1], a[2]);
            case "verdict": return x.verdict(a[0], a[1], a[2], a[3], a[4]);
            case "first": return x.first(a[0], a[1], a[2], a[3], a[4]);
            case "count": return x.count(a[0], a[1]);
            case "nodes": return x.nodes(a[0], a[1]);
            case "edges": return x.edges(a[0]);
            case "differing": return x.differing();
            case "witness": return x.witness(a[0]);
            case "used": return x.used(a[0], a[1]);
            case "prune": return x.prune(a[0]);
            case "pass": return x.pass(a[0], a[1], a[2], a[3], a[4]);
            default: return x.connection(a[0], a[1]);
        }
    }

    private int ofModel(String name, int[] a) {
        Model x = model;
        switch (name) {
            case "put": return x.put(a[0]);
            case "read": return x.read(a[0]);
            case "remove": x.remove(a[0], a[1]); return 0;
            case "swap": x.swap(a[0], a[1]); return 0;
            case "rules": return x.rules(a[0]);
            case "rule": return x.rule(a[0], a[1], a[2]);
            case "verdict": return x.verdict(a[0], a[1], a[2], a[3], a[4]);
            case "first": return x.first(a[0], a[1], a[2], a[3], a[4]);
            case "count": return x.count(a[0], a[1]);
            case "nodes": return x.nodes(a[0], a[1]);
            case "edges": return x.edges(a[0]);
            case "differing": return x.differing();
            case "witness": return x.witness(a[0]);
            case "used": return x.used(a[0], a[1]);
            case "prune": return x.prune(a[0]);
            case "pass": return x.pass(a[0], a[1], a[2], a[3], a[4]);
            default: return x.connection(a[0], a[1]);
        }
    }

    private String rulesText() {
        StringBuilder text = new StringBuilder();
        int rules = 1 + random.nextInt(4);
        for (int i = 0; i < rules && text.length() < 160; i++) {
            text.append(VERDICTS[random.nextInt(3)]);
            for (int f = 0; f < 4; f++) {
                if (random.nextInt(3) > 0) {
                    text.append(random.nextBoolean() ? " " : "\n").append(NAMES[f]).append(' ').append(range(f));
                }
            }
            text.append(';');
        }
        return text.toString();
    }

    private String range(int field) {
        int a = value(field);
        int b = value(field);
        switch (random.nextInt(7)) {
            case 0: return "any";
            case 1: return String.valueOf(a);
            case 2: return a + "/" + random.nextInt(field == 2 ? 11 : field == 3 ? 3 : 9);
            default: return Math.min(a, b) + "-" + Math.max(a, b);
        }
    }

    /** Pieces without sense, or a good text with one sign changed or its end cut off. */
    private String brokenText() {
        StringBuilder text = new StringBuilder();
        if (random.nextInt(3) == 0) {
            for (int i = 0; i < 10; i++) {
                text.append(PIECES[random.nextInt(PIECES.length)]).append(random.nextInt(3) == 0 ? "" : " ");
            }
            return text.toString();
        }
        text.append(rulesText());
        if (random.nextBoolean()) {
            text.setLength(random.nextInt(text.length()));
        } else {
            text.setCharAt(random.nextInt(text.length()), PIECES[random.nextInt(PIECES.length)].charAt(0));
        }
        return text.toString();
    }

    /** A value of a field, often a small or the greatest one, so that ranges meet. */
    private int value(int field) {
        int kind = random.nextInt(4);
        int values = Model.VALUES[field];
        return kind == 0 ? random.nextInt(values) : kind == 1 ? values - 1 - random.nextInt(2) : random.nextInt(Math.min(values, 9));
    }

    /** Mostly between two numbers, now and then outside of them. */
    private int edged(int least, int greatest) {
        switch (random.nextInt(25)) {
            case 0: return least - 1;
            case 1: return greatest + 1;
            default: return least + random.nextInt(greatest - least + 1);
        }
    }
}
