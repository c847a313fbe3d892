/** Promises 13 and 14: differing and witness. */
final class DifferenceTest {
    private static final int ALL = 1 << 28;

    public static void main(String[] args) {
        alike();
        different();
        changes();
        Check.end();
    }

    private static void alike() {
        differ("", "", 0);
        differ("", "deny src 7;", 0);
        differ("log;", "log;allow;", 0);
        differ("allow src 0-9;", "allow src 5-9;allow src 0-4 proto 0/1;allow src 0-4 proto 2-3;", 0);
        differ("deny src 1;allow;", "allow src 0;allow src 2-255;", 0);
    }

    private static void different() {
        differ("", "log;", ALL, 0, 0, 0, 0);
        differ("allow;", "log;", ALL, 0, 0, 0, 0);
        differ("allow src 255 dst 255 port 1023 proto 3;", "", 1, 255, 255, 1023, 3);
        differ("allow;log;", "allow dst 0-8;", ALL / 256 * (256 - 9), 0, 9, 0, 0);
        differ("allow;", "allow port 0-8;", ALL / 1024 * (1024 - 9), 0, 0, 9, 0);
        differ("allow;", "allow proto 0-1;", ALL / 2, 0, 0, 0, 2);
        differ("allow src 9 dst 7 port 5-6 proto 2;", "allow src 9 dst 7 port 5 proto 2;", 1, 9, 7, 6, 2);
        // The first packet goes by source ahead of target, and so on.
        differ("allow src 3 dst 200 port 1000 proto 3;allow src 4 dst 1;", "", 4097, 3, 200, 1000, 3);
        differ("allow dst 3 port 900 proto 3;allow dst 4 port 1;", "", 256 + 256 * 4, 0, 3, 900, 3);
        differ("allow port 3 proto 3;allow port 4 proto 1;", "", 2 * 65536, 0, 0, 3, 3);
        differ("allow src 10-20 port 80;deny dst 0/4;log;", "log src 10-20 port 80;", 251658944, 0, 16, 0, 0);
        differ("log;".repeat(7) + "deny;", "log;deny;", 0);
        differ("log src 1;log src 3;log src 5;log src 7;log src 9;log src 11;log src 13;log src 15;",
            "log src 1;log src 3;log src 5;log src 7;log src 9;log src 11;log src 13;allow src 15;", 1 << 20, 15, 0, 0, 0);
    }

    private static void changes() {
        RuleDiagram x = Check.with("allow src 5;log;", "log;");
        Check.same("witness", x.witness(0), 5);
        x.swap(0, 0);
        Check.same("witness behind swap", x.witness(0), RuleDiagram.NONE);
        x.remove(1, 0);
        Check.same("witness behind remove", x.witness(0), 0);
        Check.same("differing behind remove", x.differing(), ALL);
        Check.read(x, 1, "log src 0-9;");
        Check.same("witness behind read", x.witness(0), 10);
    }

    /** Both ways round, since neither list is ahead of the other. */
    private static void differ(String one, String other, int due, int... packet) {
        for (RuleDiagram x : new RuleDiagram[] {Check.with(one, other), Check.with(other, one)}) {
            Check.same("differing of '" + one + "' and '" + other + "'", x.differing(), due);
            for (int field = 0; field < 4; field++) {
                int value = due == 0 ? RuleDiagram.NONE : packet[field];
                Check.same("witness of '" + one + "' and '" + other + "'", x.witness(field), value);
            }
        }
    }
}
