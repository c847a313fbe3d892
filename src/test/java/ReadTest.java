/** Promises 2 and 3: put and read. */
final class ReadTest {
    private static final String ANY = "0 255 0 255 0 1023 0 3;";

    public static void main(String[] args) {
        put();
        putTooMuch();
        rulesOfTexts();
        rangesOfTexts();
        wordFaults();
        numberFaults();
        endFaults();
        tooManyRules();
        whatReadLeaves();
        Check.end();
    }

    private static void put() {
        RuleDiagram x = new RuleDiagram();
        Check.same("put", x.put(Check.four("deny")), 4);
        Check.same("put of nothing", x.put(0), 4);
        Check.same("put with 0 between", x.put(';' << 8 | '\n' << 24), 6);
        Check.same("put of sign 127", x.put(127 << 16), 7);
        Check.fails("put(128)", Check.ARGUMENT, () -> x.put(128));
        Check.fails("put(128 << 8)", Check.ARGUMENT, () -> x.put(128 << 8 | 'a'));
        Check.fails("put(255 << 16)", Check.ARGUMENT, () -> x.put(255 << 16));
        Check.fails("put(-1)", Check.ARGUMENT, () -> x.put(-1));
        Check.fails("put(MIN_VALUE)", Check.ARGUMENT, () -> x.put(Integer.MIN_VALUE));
        Check.same("put behind faults", x.put(0), 7);
        Check.same("fault of sign 127", x.read(0), -1 - 6);
        Check.same("the lowest byte is first", Check.read(new RuleDiagram(), 0, "log;"), 1);
    }

    private static void putTooMuch() {
        RuleDiagram x = new RuleDiagram();
        Check.put(x, " ".repeat(238));
        Check.fails("put of three more", Check.UNSUPPORTED, () -> x.put(Check.four("   ")));
        Check.fails("put of four more", Check.UNSUPPORTED, () -> x.put(Check.four("    ")));
        Check.fails("put of a wrong sign and too much", Check.ARGUMENT, () -> x.put(0x80202020));
        Check.same("nothing was put", x.put(0), 238);
        Check.same("put of two more", x.put(' ' << 24 | ' '), 240);
        Check.same("put of none more", x.put(0), 240);
        Check.fails("put of one more", Check.UNSUPPORTED, () -> x.put('x' << 8));
        Check.same("read of all", x.read(0), 0);
        Check.same("put behind read", x.put('x'), 1);
    }

    private static void rulesOfTexts() {
        Check.reads("", 0, "");
        Check.reads(" \n ", 0, "");
        Check.reads("deny;", 1, "0 " + ANY);
        Check.reads("allow;", 1, "1 " + ANY);
        Check.reads("log;", 1, "2 " + ANY);
        Check.reads("\nlog ;\n allow\n; ", 2, "2 " + ANY + "1 " + ANY);
        Check.reads("log src 1 dst 2 port 3 proto 1;", 1, "2 1 1 2 2 3 3 1 1;");
        Check.reads("log proto1port3dst2src1;", 1, "2 1 1 2 2 3 3 1 1;");
        Check.reads("deny src any dst any port any proto any;log;", 2, "0 " + ANY + "2 " + ANY);
        Check.reads("deny dst any;allow dst 7;", 2, "0 " + ANY + "1 0 255 7 7 0 1023 0 3;");
        RuleDiagram x = Check.with("deny;allow;");
        Check.same("rules behind others", Check.read(x, 0, "log;deny;"), 2);
        Check.same("all rules", Check.verdicts(x, 0), "0120");
        Check.same("rules of the other list", x.rules(1), 0);
    }

    private static void rangesOfTexts() {
        Check.reads("log src 0 dst 255 port 1023 proto 3;", 1, "2 0 0 255 255 1023 1023 3 3;");
        Check.reads("log src 0-255 dst 7-7 port 10 - 1023 proto 1\n-\n2;", 1, "2 0 255 7 7 10 1023 1 2;");
        Check.reads("log src 0007 port 0000-0009;", 1, "2 7 7 0 255 0 9 0 3;");
        Check.reads("log src 200/0 dst 200/8 port 1000/0 proto 3/0;", 1, "2 0 255 200 200 0 1023 0 3;");
        Check.reads("log src 200/1 dst 127/1 port 1000/10 proto 3/2;", 1, "2 128 255 0 127 1000 1000 3 3;");
        Check.reads("log src 77/4 dst 77 / 7 port 1000/5 proto 2/1;", 1, "2 64 79 76 77 992 1023 2 3;");
        Check.reads("log port 33/9 src 5/0008 ;", 1, "2 5 5 0 255 32 33 0 3;");
    }

    private static void wordFaults() {
        Check.faulty("alow;", 0);
        Check.faulty("Deny;", 0);
        Check.faulty("  denyy;", 2);
        Check.faulty("den y;", 0);
        Check.faulty(";", 0);
        Check.faulty(" ; ", 1);
        Check.faulty("5;", 0);
        Check.faulty("src 5;", 0);
        Check.faulty("any;", 0);
        Check.faulty("deny;;", 5);
        Check.faulty("deny;\tlog;", 5);
        Check.faulty("log,", 3);
        Check.faulty("log log;", 4);
        Check.faulty("log any;", 4);
        Check.faulty("log 5;", 4);
        Check.faulty("log srcc 5;", 4);
        Check.faulty("logsrc 5;", 0);
        Check.faulty("log srcany;", 4);
        Check.faulty("log src;", 7);
        Check.faulty("log src dst 5;", 8);
        Check.faulty("log src -5;", 8);
        Check.faulty("log src anyy;", 8);
        Check.faulty("log src 5 any;", 10);
        Check.faulty("log src any 5;", 12);
        Check.faulty("log src any-5;", 11);
        Check.faulty("log src 5 6;", 10);
        Check.faulty("log src 5--6;", 10);
        Check.faulty("log src 5-any;", 10);
        Check.faulty("log src 5/;", 10);
        Check.faulty("log src 5-6-7;", 11);
        Check.faulty("log src 5/6/7;", 11);
        Check.faulty("log src 5-6/7;", 11);
        Check.faulty("log src 5 + 6;", 10);
        Check.faulty("log src 5 src 6;", 10);
        Check.faulty("log src any src any;", 12);
        Check.faulty("log src 1 dst 2 port 3 proto 1 src 1;", 31);
        Check.faulty("log src 1 dst 2 port 3 proto 1 any;", 31);
        Check.faulty("log src 5;log dst 5;src 3;", 20);
        Check.faulty("log src 5:", 9);
        Check.faulty("log \rsrc 5;", 4);
    }

    private static void numberFaults() {
        Check.faulty("log src 256;", 8);
        Check.faulty("log dst 256;", 8);
        Check.faulty("log port 1024;", 9);
        Check.faulty("log proto 4;", 10);
        Check.faulty("log src 00001;", 8);
        Check.faulty("log port 99999999999;", 9);
        Check.faulty("log src 1-256;", 10);
        Check.faulty("log port 1-1024;", 11);
        Check.faulty("log proto 1-4;", 12);
        Check.faulty("log src 1-00002;", 10);
        Check.faulty("log src 5-4;", 10);
        Check.faulty("log src 5 - 4;", 12);
        Check.faulty("log src 300-4;", 8);
        Check.faulty("log src 5/9;", 10);
        Check.faulty("log dst 5/9;", 10);
        Check.faulty("log port 5/11;", 11);
        Check.faulty("log proto 1/3;", 12);
        Check.faulty("log src 256/1;", 8);
        Check.faulty("log src 5/00001;", 10);
        Check.faulty("log src 256 src;", 8);
    }

    private static void endFaults() {
        Check.faulty("log", 3);
        Check.faulty("log ", 4);
        Check.faulty("log src", 7);
        Check.faulty("log src 5", 9);
        Check.faulty("log src 5 \n ", 12);
        Check.faulty("log src 5-", 10);
        Check.faulty("log src 5- ", 11);
        Check.faulty("log src 5/", 10);
        Check.faulty("log src any", 11);
        Check.faulty("log; deny", 9);
        Check.faulty(" ".repeat(237) + "log", 240);
        Check.faulty(" ".repeat(239) + "x", 239);
    }

    private static void tooManyRules() {
        RuleDiagram x = new RuleDiagram();
        Check.same("nine rules", Check.read(x, 0, "log;".repeat(9)), -1000);
        Check.same("sixty rules", Check.read(x, 0, "log;".repeat(60)), -1000);
        Check.same("a fault behind eight rules", Check.read(x, 0, "log;".repeat(10) + "lo"), -1 - 40);
        Check.same("none of them", x.rules(0), 0);
        Check.same("eight rules", Check.read(x, 0, "log;".repeat(8)), 8);
        Check.same("no more", Check.read(x, 0, ""), 0);
        Check.same("one more", Check.read(x, 0, "log;"), -1000);
        Check.same("a fault in a full list", Check.read(x, 0, "log;x"), -5);
        Check.same("in the other list", Check.read(x, 1, "deny;".repeat(5)), 5);
        Check.same("four more there", Check.read(x, 1, "log;".repeat(4)), -1000);
        Check.same("three more there", Check.read(x, 1, "log;".repeat(3)), 3);
        Check.same("all there", Check.verdicts(x, 1), "00000222");
        Check.same("all in the first", Check.verdicts(x, 0), "22222222");
    }

    private static void whatReadLeaves() {
        RuleDiagram x = Check.with("deny src 1;");
        Check.put(x, "log;");
        Check.fails("read(2)", Check.BOUNDS, () -> x.read(2));
        Check.fails("read(-1)", Check.BOUNDS, () -> x.read(-1));
        Check.fails("read(MIN_VALUE)", Check.BOUNDS, () -> x.read(Integer.MIN_VALUE));
        Check.same("the text is still there", x.read(0), 1);
        Check.same("the text is empty", x.put(0), 0);
        String shown = Check.show(x, 0);
        Check.same("a fault behind a rule", Check.read(x, 0, "allow;allow dst 4"), -1 - 17);
        Check.same("the text is empty behind a fault", x.put(0), 0);
        Check.same("the rules behind a fault", Check.show(x, 0), shown);
        Check.same("too many", Check.read(x, 0, "allow;".repeat(7)), -1000);
        Check.same("the text is empty behind too many", x.put(0), 0);
        Check.same("the rules behind too many", Check.show(x, 0), shown);
    }
}
