/** "Terms", what a text is and where its fault is: each sentence that names a bound, with what is just inside and just outside. */
final class TextTermsTest {
    private static final String[] NAMES = {"src", "dst", "port", "proto"};
    private static final int[] BITS = {8, 8, 10, 2};
    private static final String ANY = "0 255 0 255 0 1023 0 3;";

    public static void main(String[] args) {
        signs();
        words();
        numbers();
        blanks();
        noneOrSomeRules();
        verdictFieldsSemicolon();
        nameOnceAtMost();
        oneNumber();
        twoNumbers();
        highBits();
        wordAny();
        greatestValues();
        untoldFields();
        firstPlace();
        faultOfWordOrSign();
        faultOfName();
        faultOfLongNumber();
        faultOfGreatNumber();
        faultOfBits();
        faultOfSecondNumber();
        faultAtEnd();
        Check.end();
    }

    private static void signs() {
        Check.sentence("A TEXT has at most 240 signs, 1 .. 127.");
        Check.reads("log;" + " ".repeat(235), 1, "2 " + ANY);
        Check.reads("log;" + " ".repeat(236), 1, "2 " + ANY);
        Check.reads(" ".repeat(236) + "log;", 1, "2 " + ANY);
        RuleDiagram x = new RuleDiagram();
        Check.put(x, " ".repeat(236) + "log;");
        Check.fails("the 241st sign", Check.UNSUPPORTED, () -> x.put(' '));
        Check.same("240 signs", x.put(0), 240);
        for (int sign = 1; sign < 128; sign++) {
            Check.same("put of sign " + sign, new RuleDiagram().put(sign), 1);
        }
        Check.same("sign 0 is none", new RuleDiagram().put(0), 0);
        Check.fails("sign 128", Check.ARGUMENT, () -> new RuleDiagram().put(128));
    }

    private static void words() {
        Check.sentence("WORDS are small letters a .. z, one behind the other, as many as there are");
        Check.faulty("logg;", 0);
        Check.faulty("llog;", 0);
        Check.faulty("denyallow;", 0);
        Check.faulty("logsrc 1;", 0);
        Check.faulty("loga;", 0);
        Check.faulty("logz;", 0);
        Check.faulty("log srca 1;", 4);
        Check.faulty("log srcany;", 4);
        Check.faulty("log src anyz;", 8);
        Check.faulty("log src anydst 1;", 8);
        Check.faulty("log" + "g".repeat(236) + ";", 0);
        for (String word : new String[] {"deny", "allow", "log"}) {
            otherLetters("", word, ";");
        }
        for (String name : NAMES) {
            otherLetters("log ", name, " 1;");
        }
        otherLetters("log src ", "any", ";");
        // The signs next to a and z are none, nor are capital letters: the word is over there.
        Check.faulty("log`;", 3);
        Check.faulty("log{;", 3);
        Check.faulty("logA;", 3);
        Check.faulty("logZ;", 3);
        Check.faulty("LOG;", 0);
        Check.faulty("Log;", 0);
        // So it is at a digit.
        Check.faulty("log1;", 3);
        Check.reads("log src1dst2;", 1, "2 1 1 2 2 0 1023 0 3;");
    }

    /** A word of which one letter is another one, or is left out, is no word that can come there. */
    private static void otherLetters(String head, String word, String tail) {
        for (int i = 0; i < word.length(); i++) {
            char other = word.charAt(i) == 'z' ? 'a' : (char) (word.charAt(i) + 1);
            String front = head + word.substring(0, i);
            String back = word.substring(i + 1) + tail;
            Check.faulty(front + other + back, head.length());
            Check.faulty(front + back, head.length());
        }
    }

    private static void numbers() {
        Check.sentence("NUMBERS are digits 0 .. 9, likewise, of at most four.");
        Check.reads("log src 0;", 1, "2 0 0 0 255 0 1023 0 3;");
        Check.reads("log src 9;", 1, "2 9 9 0 255 0 1023 0 3;");
        Check.reads("log port 1000;", 1, "2 0 255 0 255 1000 1000 0 3;");
        Check.reads("log src 0000;", 1, "2 0 0 0 255 0 1023 0 3;");
        Check.reads("log src 0255;", 1, "2 255 255 0 255 0 1023 0 3;");
        Check.faulty("log src 00000;", 8);
        Check.faulty("log src 00255;", 8);
        Check.faulty("log src 0-00255;", 10);
        Check.faulty("log src 0/00000;", 10);
        // As many digits as there are: two numbers side by side are one.
        Check.faulty("log port 10001;", 9);
        Check.faulty("log port 1000 1;", 14);
        // The signs next to 0 and 9: the one above is none, the one below makes it a / n.
        Check.faulty("log src 1:;", 9);
        Check.faulty("log src 1/;", 10);
        Check.faulty("log src :;", 8);
        Check.faulty("log src /;", 8);
        Check.faulty("log src 1.5;", 9);
        Check.faulty("log src +1;", 8);
        Check.faulty("log src 1a;", 9);
    }

    private static void blanks() {
        Check.sentence("Blanks (32) and line ends (10) may stand between words, numbers and other signs, but needn't.");
        String rule = "2 1 2 4 7 9 9 0 3;";
        Check.reads("log src1-2dst5/6port9proto any;", 1, rule);
        Check.reads(" log  src  1  -  2  dst  5  /  6  port  9  proto  any  ;  ", 1, rule);
        Check.reads("\nlog\nsrc\n1\n-\n2\ndst\n5\n/\n6\nport\n9\nproto\nany\n;\n", 1, rule);
        Check.reads("log \n\n src1 \n-2dst\n 5/ 6port\n\n9proto\n any\n ;\n ", 1, rule);
        for (char sign = 1; sign < 128; sign++) {
            between(sign);
        }
        // Inside a word or a number they may not: it is two then.
        Check.faulty("l og;", 0);
        Check.faulty("lo\ng;", 0);
        Check.faulty("log sr c 1;", 4);
        Check.faulty("log src 1 2;", 10);
        Check.faulty("log src a ny;", 8);
    }

    /** A sign between a verdict and a name, and between a name and a number, where nothing but a blank may be. */
    private static void between(char sign) {
        boolean isLetter = sign >= 'a' && sign <= 'z';
        boolean isDigit = sign >= '0' && sign <= '9';
        if (sign == 32 || sign == 10) {
            Check.reads("log" + sign + "src" + sign + "1;", 1, "2 1 1 0 255 0 1023 0 3;");
            return;
        }
        Check.faulty("log" + sign + "src 1;", isLetter ? 0 : sign == ';' ? 4 : 3);
        if (!isDigit) {
            Check.faulty("log src" + sign + "1;", isLetter ? 4 : 7);
        }
    }

    private static void noneOrSomeRules() {
        Check.sentence("A text is RULES, none or some");
        Check.reads("", 0, "");
        Check.reads(" ", 0, "");
        Check.reads("\n", 0, "");
        Check.reads(" ".repeat(240), 0, "");
        Check.reads("log;", 1, "2 " + ANY);
        Check.reads("log;deny;", 2, "2 " + ANY + "0 " + ANY);
        Check.reads("log;".repeat(8), 8, ("2 " + ANY).repeat(8));
        Check.faulty("log;;", 4);
        Check.faulty(";log;", 0);
    }

    private static void verdictFieldsSemicolon() {
        Check.sentence("a rule is a verdict (the word deny, allow or log), then none or some FIELDS, and a semicolon.");
        Check.reads("deny;", 1, "0 " + ANY);
        Check.reads("allow;", 1, "1 " + ANY);
        Check.reads("log;", 1, "2 " + ANY);
        Check.reads("log src 1;", 1, "2 1 1 0 255 0 1023 0 3;");
        Check.reads("log src 1 dst 2;", 1, "2 1 1 2 2 0 1023 0 3;");
        Check.reads("log src 1 dst 2 port 3;", 1, "2 1 1 2 2 3 3 0 3;");
        Check.reads("log src 1 dst 2 port 3 proto 0;", 1, "2 1 1 2 2 3 3 0 0;");
        Check.reads("log proto 0 port 3 dst 2 src 1;", 1, "2 1 1 2 2 3 3 0 0;");
        Check.faulty("src 1;", 0);
        Check.faulty("log log;", 4);
        Check.faulty("src 1 log;", 0);
        Check.faulty("log src 1 log;", 10);
        Check.faulty("log src 1,dst 2;", 9);
        Check.faulty("log src 1 allow dst 2;", 10);
        Check.faulty("log src 1:", 9);
        Check.faulty("none;", 0);
        Check.faulty("den;", 0);
        Check.faulty("allo;", 0);
        Check.faulty("lo;", 0);
        Check.faulty("log sr 1;", 4);
        Check.faulty("log prot 1;", 4);
        Check.faulty("log ports 1;", 4);
    }

    private static void nameOnceAtMost() {
        Check.sentence("A field is its name (src, dst, port, proto), which stands in a rule once at most");
        for (String name : NAMES) {
            int again = ("log " + name + " 1 ").length();
            Check.faulty("log " + name + " 1 " + name + " 1;", again);
            Check.faulty("log " + name + " 1 " + name + ";", again);
            Check.faulty("log " + name + " any " + name + " any;", again + 2);
            Check.faulty("deny;log " + name + " 1-2 " + name + " 1;", again + 7);
            // Each rule begins anew, and so does each text.
            RuleDiagram x = new RuleDiagram();
            Check.same("twice " + name, Check.read(x, 0, "log " + name + " 1;deny " + name + " 2;"), 2);
            Check.same("once more " + name, Check.read(x, 0, "log " + name + " 1;"), 1);
            Check.same("behind a fault " + name, Check.read(x, 0, "log " + name + " 1,"), -1 - again + 1);
            Check.same("and again " + name, Check.read(x, 0, "log " + name + " 1;"), 1);
        }
        Check.faulty("log src 1 dst 1 port 1 proto 1 proto 1;", 31);
        Check.faulty("log src 1 dst 1 port 1 src 1 proto 1;", 23);
    }

    private static void oneNumber() {
        Check.sentence("a number a, for a alone");
        for (int field = 0; field < 4; field++) {
            int greatest = (1 << BITS[field]) - 1;
            for (int a : new int[] {0, 1, greatest - 1, greatest}) {
                Check.reads("log " + NAMES[field] + " " + a + ";", 1, "2 " + ranges(field, a, a));
            }
        }
    }

    private static void twoNumbers() {
        Check.sentence("or a - b, two numbers, a not above b");
        for (int field = 0; field < 4; field++) {
            int greatest = (1 << BITS[field]) - 1;
            int[][] inside = {{0, 0}, {0, 1}, {0, greatest}, {1, 1}, {greatest - 1, greatest}, {greatest, greatest}};
            for (int[] ab : inside) {
                String text = "log " + NAMES[field] + " " + ab[0] + "-" + ab[1] + ";";
                Check.reads(text, 1, "2 " + ranges(field, ab[0], ab[1]));
            }
            for (int[] ab : new int[][] {{1, 0}, {greatest, greatest - 1}, {greatest, 0}}) {
                String head = "log " + NAMES[field] + " " + ab[0] + "-";
                Check.faulty(head + ab[1] + ";", head.length());
            }
        }
        Check.faulty("log src 10-9;", 11);
        Check.reads("log src 9-10;", 1, "2 9 10 0 255 0 1023 0 3;");
        Check.faulty("log src 1-2-3;", 11);
        Check.faulty("log src 1-2/3;", 11);
        Check.faulty("log src 1-any;", 10);
        Check.faulty("log src -2;", 8);
    }

    private static void highBits() {
        Check.sentence("or a / n, n not above the field's bits: all values whose highest n bits are as those of a");
        for (int field = 0; field < 4; field++) {
            int values = 1 << BITS[field];
            for (int n = 0; n <= BITS[field]; n++) {
                for (int a = 0; a < values; a += values == 1024 ? 31 : 3) {
                    alikeInHighBits(field, a, n);
                }
                alikeInHighBits(field, values - 1, n);
            }
            String head = "log " + NAMES[field] + " 1/";
            Check.faulty(head + (BITS[field] + 1) + ";", head.length());
            Check.faulty(head + "9999;", head.length());
        }
        Check.faulty("log src 1/2/3;", 11);
        Check.faulty("log src 1/2-3;", 11);
        Check.faulty("log src 1/any;", 10);
    }

    private static void alikeInHighBits(int field, int a, int n) {
        int least = -1;
        int greatest = -1;
        for (int value = 0; value < 1 << BITS[field]; value++) {
            if (value >> BITS[field] - n == a >> BITS[field] - n) {
                least = least < 0 ? value : least;
                greatest = value;
            }
        }
        Check.reads("log " + NAMES[field] + " " + a + "/" + n + ";", 1, "2 " + ranges(field, least, greatest));
    }

    private static void wordAny() {
        Check.sentence("or the word any.");
        for (String name : NAMES) {
            Check.reads("log " + name + " any;", 1, "2 " + ANY);
        }
        Check.reads("log src any dst any port any proto any;", 1, "2 " + ANY);
        Check.faulty("log src an;", 8);
        Check.faulty("log src any any;", 12);
        Check.faulty("log src any-1;", 11);
        Check.faulty("log src any/1;", 11);
        Check.faulty("log src any 1;", 12);
        Check.faulty("log any;", 4);
    }

    private static void greatestValues() {
        Check.sentence("Values are not above the field's greatest one.");
        for (int field = 0; field < 4; field++) {
            int greatest = (1 << BITS[field]) - 1;
            String head = "log " + NAMES[field] + " ";
            Check.reads(head + greatest + ";", 1, "2 " + ranges(field, greatest, greatest));
            Check.faulty(head + (greatest + 1) + ";", head.length());
            Check.faulty(head + "9999;", head.length());
            Check.reads(head + "0-" + greatest + ";", 1, "2 " + ANY);
            Check.faulty(head + "0-" + (greatest + 1) + ";", head.length() + 2);
            Check.faulty(head + (greatest + 1) + "-" + (greatest + 1) + ";", head.length());
            Check.reads(head + greatest + "/0;", 1, "2 " + ANY);
            Check.faulty(head + (greatest + 1) + "/0;", head.length());
        }
    }

    private static void untoldFields() {
        Check.sentence("A field that isn't told has any value.");
        Check.reads("log;", 1, "2 " + ANY);
        for (int field = 0; field < 4; field++) {
            Check.reads("log " + NAMES[field] + " 1;", 1, "2 " + ranges(field, 1, 1));
        }
        // What the rule ahead tells, or a text with a fault, is not told to the next one.
        Check.reads("log src 1 dst 1 port 1 proto 1;log;", 2, "2 1 1 1 1 1 1 1 1;2 " + ANY);
        RuleDiagram x = new RuleDiagram();
        Check.read(x, 1, "deny src 7 dst 7 port 7 proto 0,");
        Check.same("read behind a fault", Check.read(x, 1, "log;"), 1);
        Check.same("rules behind a fault", Check.show(x, 1), "2 " + ANY);
    }

    private static void firstPlace() {
        Check.sentence("The FAULT of a text is the first place at which it is not so");
        Check.faulty("x;", 0);
        Check.faulty("log src 256 dst 256;", 8);
        Check.faulty("log src 5-4 src 5;", 10);
        Check.faulty("log srx 00001;", 4);
        Check.faulty("log src 1 src 256;", 10);
        Check.faulty("log src 256", 8);
        Check.faulty("log;x;y;", 4);
        Check.faulty("log;".repeat(8) + "x;", 32);
        Check.faulty("log;".repeat(59) + "logx", 236);
        Check.faulty("log;".repeat(59) + "   x", 239);
    }

    private static void faultOfWordOrSign() {
        Check.sentence("that of a word or sign that can't come there");
        Check.faulty("allow deny;", 6);
        Check.faulty("  any;", 2);
        Check.faulty("log  ,;", 5);
        Check.faulty("log src  dst 1;", 9);
        Check.faulty("log src  ;", 9);
        Check.faulty("log src 1  any;", 11);
        Check.faulty("log src 1 -  dst 2;", 13);
        Check.faulty("log src 1 /  ;", 13);
        Check.faulty("log;  -", 6);
        Check.faulty("\u0001", 0);
        Check.faulty("\u007f", 0);
        Check.faulty("log\u007f;", 3);
        // A number where none can come is told by its first digit.
        Check.faulty("log 12;", 4);
        Check.faulty("12;", 0);
        Check.faulty("log src any 12;", 12);
        Check.faulty("log src 1-2 34;", 12);
    }

    private static void faultOfName() {
        Check.sentence("of a name that stands there once more");
        Check.faulty("log src 1\n\n src 2;", 12);
        Check.faulty("log src 1-2dst 1src 3;", 16);
        Check.faulty("log src 1 src", 10);
        Check.faulty("log;log dst 1 dst 1;", 14);
        // A name where no name can come is a word that can't come there, at the same place.
        Check.faulty("log src src 1;", 8);
    }

    private static void faultOfLongNumber() {
        Check.sentence("of a number that is too long");
        Check.faulty("log src 00001;", 8);
        Check.faulty("log src  00001;", 9);
        Check.faulty("log src 0-00001;", 10);
        Check.faulty("log src 0 - 00001;", 12);
        Check.faulty("log src 0/00001;", 10);
        Check.faulty("log port 10240;", 9);
        // Numbers that wrap around to a small one, if they are reckoned in 32 or 64 bits.
        Check.faulty("log src 4294967297;", 8);
        Check.faulty("log src 0-4294967297;", 10);
        Check.faulty("log src 0/4294967297;", 10);
        Check.faulty("log src 18446744073709551617;", 8);
        Check.faulty("log src " + "0".repeat(230) + "1;", 8);
        Check.reads("log src 0001;", 1, "2 1 1 0 255 0 1023 0 3;");
    }

    private static void faultOfGreatNumber() {
        Check.sentence("or too great");
        Check.faulty("log src 256;", 8);
        Check.faulty("log dst  256;", 9);
        Check.faulty("log port 1024;", 9);
        Check.faulty("log proto 4;", 10);
        Check.faulty("log src 0-256;", 10);
        Check.faulty("log dst 0 -  256;", 13);
        Check.faulty("log port 0-1024;", 11);
        Check.faulty("log proto 0-4;", 12);
        Check.faulty("log src 256/8;", 8);
        Check.faulty("log src 256", 8);
    }

    private static void faultOfBits() {
        Check.sentence("or too great, or n,");
        Check.faulty("log src 0/9;", 10);
        Check.faulty("log dst 0/  9;", 12);
        Check.faulty("log port 0/11;", 11);
        Check.faulty("log proto 0/3;", 12);
        Check.reads("log src 0/8 dst 0/8 port 0/10 proto 0/2;", 1, "2 0 0 0 0 0 0 0 0;");
    }

    private static void faultOfSecondNumber() {
        Check.sentence("or b below a");
        Check.faulty("log src 1-0;", 10);
        Check.faulty("log src 255-254;", 12);
        Check.faulty("log port 1023 - 1022;", 16);
        Check.faulty("log proto 3-\n2;", 13);
        Check.faulty("log src 5-4", 10);
        Check.reads("log src 5-5;", 1, "2 5 5 0 255 0 1023 0 3;");
    }

    private static void faultAtEnd() {
        Check.sentence("its end if something is missing there");
        String[] begun = {"log", "log src", "log src 1", "log src 1-", "log src 1-2", "log src 1/", "log src 1/2", "log src any",
            "log src 1 dst", "log src 1 dst 2 port 3 proto 1", "log;allow", "log src 1;deny port 4"};
        for (String text : begun) {
            Check.faulty(text, text.length());
            // Blanks belong to the text, so its end is behind them.
            Check.faulty(text + " ", text.length() + 1);
            Check.faulty(text + "\n \n", text.length() + 3);
        }
        Check.faulty(" ".repeat(236) + "log", 239);
        Check.faulty(" ".repeat(237) + "log", 240);
        Check.faulty("log" + " ".repeat(237), 240);
        // Nothing is missing behind a semicolon.
        Check.reads("log; \n", 1, "2 " + ANY);
        // A word or number that is broken off is one that can't come there.
        Check.faulty("lo", 0);
        Check.faulty("log sr", 4);
        Check.faulty("log src an", 8);
    }

    /** The numbers of a rule that tells the range of one field. */
    private static String ranges(int field, int least, int greatest) {
        String[] ranges = {"0 255", "0 255", "0 1023", "0 3"};
        ranges[field] = least + " " + greatest;
        return String.join(" ", ranges) + ";";
    }
}
