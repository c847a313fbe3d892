import com.sun.management.ThreadMXBean;
import java.lang.management.ManagementFactory;

/** All calls of a run live in one room that is never emptied: an object makes its rows once, and its calls make none. */
final class RoomTest {
    private static final ThreadMXBean THREADS = (ThreadMXBean) ManagementFactory.getThreadMXBean();

    /** What is left of 512 calls when both lists have been read. */
    private static final int CALLS = 250;

    private static RuleDiagram kept = new RuleDiagram();

    public static void main(String[] args) {
        // Once ahead, so that what the machine makes for itself at a first call is not counted.
        useAll(dear());
        made();
        RuleDiagram x = dear();
        long before = made();
        useAll(x);
        long ofCalls = made() - before;
        before = made();
        kept = new RuleDiagram();
        long ofObject = made() - before;
        System.out.println("an object makes " + ofObject + " bytes, its calls " + ofCalls);
        Check.same("an object is small", ofObject < 40_000 && kept.rules(0) == 0, true);
        Check.same("calls make next to nothing", ofCalls < 2_000, true);
        Check.end();
    }

    private static long made() {
        return THREADS.getCurrentThreadAllocatedBytes();
    }

    /** Both lists full of rules whose ranges all begin and end at values of their own. */
    private static RuleDiagram dear() {
        RuleDiagram x = new RuleDiagram();
        for (int i = 0; i < 16; i++) {
            // The narrow ones first, so that every rule is used and prune leaves all.
            int least = 33 - 2 * i;
            String range = least + "-" + (250 - least);
            String text = (i % 3 == 0 ? "log" : "allow") + " src " + range + " dst " + range + " port " + range + " proto 1-2;";
            Check.read(x, i % 2, text);
        }
        return x;
    }

    private static void useAll(RuleDiagram x) {
        int sum = 0;
        for (int i = 0; i + 17 <= CALLS; i += 17) {
            sum += x.put(0x3b676f6c) + x.read(0) + x.rules(0) + x.rule(0, 1, 2);
            sum += x.verdict(0, i % 256, 1, 1, 1) + x.first(1, 1, i % 256, 1, 1) + x.count(0, 1) + x.nodes(1, 2);
            sum += x.edges(0) + x.differing() + x.witness(3) + x.used(1, 2) + x.prune(i % 2);
            sum += x.pass(1, i % 256, 50, 60, 1) + x.connection(0, 0);
            x.swap(0, 0);
            x.swap(0, 0);
        }
        if (sum == 0) {
            throw new IllegalStateException("nothing was counted");
        }
    }
}
