/** The edges that the first part of chapter 3 and promises 10 to 12 name: each test is for one sentence, told by its name. */
public final class RulesEdgesTest {
    private final Script s = new Script();

    public static void main(String[] args) {
        RulesEdgesTest test = new RulesEdgesTest();
        test.feeds();
        test.feedsUpToAHundred();
        test.refusedReads();
        test.goodTexts();
        test.everyNumber();
        test.everyByte();
        test.everyBeginning();
        test.twiceTheSame();
        test.faultsOfATapeThatIsFull();
        test.siteOfs();
        test.s.end("RulesEdgesTest");
    }

    private static RoadPlugs withSite() {
        RoadPlugs plugs = new RoadPlugs();
        plugs.site(0, 1);
        return plugs;
    }

    /** Reads a text on a new object whose site has rules of its own, and tells what came of them. */
    private void readDue(String text, int due, int... rules) {
        RoadPlugs plugs = withSite();
        Script.feedText(plugs, "cap 7;idle 8 after 9;share first;");
        s.due("read of the rules ahead", plugs.read(0), 3);
        Script.feedText(plugs, text);
        s.due("bytes of '" + text + "'", plugs.many(9), text.length());
        s.due("read of '" + text + "'", plugs.read(0), due);
        s.due("the tape behind '" + text + "'", plugs.many(9), 0);
        // A fault leaves the rules as they were.
        int[] are = due < 0 ? new int[] {1, 7, 8, 9} : rules;
        for (int i = 0; i < are.length; i++) {
            s.due("siteOf 0 " + (2 + i) + " behind '" + text + "'", plugs.siteOf(0, 2 + i), are[i]);
        }
    }

    private void feeds() {
        s.run("10 n is 1 to 8", """
            feed 0 0 = -1 | feed 0 9 = -1 | feed 0 -1 = -1 | feed 0 -2147483648 = -1 | feed 0 2147483647 = -1 | many 9 = 0
            feed 0 1 = 1 | feed 0 8 = 9 | feed 0 2 = 11 | feed 0 7 = 18 | many 9 = 18
            """);
        s.run("10 the lowest of eight first, and none behind n", """
            site 0 1 = 0
            feed 4265243309652336995 8 = 8 | read 0 = -104 | feed 8680820740568670563 3 = 3 | feed 13600 2 = 5 | feed 59 1 = 6 | read 0 = 1 | siteOf 0 3 = 5
            """);
        s.run("10 a negative number of eight has bytes as any other", """
            site 0 1 = 0 | feed -1 8 = 8 | read 0 = -100 | feed -9223372036854775808 7 = 7 | read 0 = -100
            feed -9223372036854775776 1 = 1 | read 0 = 0 | feed -1 1 = 1 | read 0 = -100
            """);
        s.run("10 FULL: more than 100; NUMBER ahead of it", """
            feed 0 8 = 8 | feed 0 8 = 16 | feed 0 8 = 24 | feed 0 8 = 32 | feed 0 8 = 40 | feed 0 8 = 48 | feed 0 8 = 56 | feed 0 8 = 64 | feed 0 8 = 72
            feed 0 8 = 80 | feed 0 8 = 88 | feed 0 8 = 96 | feed 0 5 = -2 | feed 0 8 = -2 | many 9 = 96 | feed 0 4 = 100 | feed 0 1 = -2 | feed 0 8 = -2
            feed 0 0 = -1 | feed 0 9 = -1 | many 9 = 100
            """);
        s.run("10 a tape that was full takes bytes again when it is used up", """
            feed 0 8 = 8 | feed 0 8 = 16 | feed 0 8 = 24 | feed 0 8 = 32 | feed 0 8 = 40 | feed 0 8 = 48 | feed 0 8 = 56 | feed 0 8 = 64 | feed 0 8 = 72
            feed 0 8 = 80 | feed 0 8 = 88 | feed 0 8 = 96 | feed 0 4 = 100 | read 0 = -1 | many 9 = 0 | feed 0 8 = 8
            """);
    }

    /** 10: FULL, from each number of bytes near a hundred with each n. */
    private void feedsUpToAHundred() {
        for (int had = 90; had <= 100; had++) {
            for (int n = 1; n <= 8; n++) {
                RoadPlugs plugs = withSite();
                Script.feedText(plugs, " ".repeat(had));
                s.due("feed of " + n + " to " + had, plugs.feed(' ', n), had + n > 100 ? RoadPlugs.FULL : had + n);
                s.due("bytes then", plugs.many(9), had + n > 100 ? had : had + n);
            }
        }
    }

    private void refusedReads() {
        s.run("11 NUMBER: there is no such SITE; the tape is used up all the same", """
            tape cap 5;
            many 9 = 6 | read 0 = -1 | many 9 = 0 | site 0 1 = 0 | read 0 = 0
            tape cap 5;
            read 1 = -1 | many 9 = 0
            tape cap 5;
            read -1 = -1 | many 9 = 0
            tape cap 5;
            read 2147483647 = -1 | read -2147483648 = -1 | many 9 = 0 | siteOf 0 3 = 100
            """);
        s.run("11 NUMBER ahead of a FAULT", """
            tape x
            read 0 = -1 | site 0 1 = 0
            tape x
            read 0 = -100
            """);
        s.run("11 rules are of the SITE that reads alone, up to the last one", """
            site 1 1 = 0 | site 2 1 = 1 | site 3 1 = 2 | site 4 1 = 3 | site 5 1 = 4 | site 6 1 = 5
            tape share first;cap 1;idle 2 after 3;
            read 5 = 3 | siteOf 5 2 = 1 | siteOf 5 3 = 1 | siteOf 5 4 = 2 | siteOf 5 5 = 3
            siteOf 4 2 = 0 | siteOf 4 3 = 100 | siteOf 4 4 = 0 | siteOf 4 5 = 100 | siteOf 0 3 = 100
            tape cap 9;
            read 6 = -1 | siteOf 5 3 = 1
            """);
        s.run("11 a FAULT: they stay as they were, and the tape is used up", """
            site 1 1 = 0
            tape share first;cap 1;idle 2 after 3;
            read 0 = 3
            tape share even;cap 2;idle 3 after 4
            read 0 = -131 | many 9 = 0 | siteOf 0 2 = 1 | siteOf 0 3 = 1 | siteOf 0 4 = 2 | siteOf 0 5 = 3 | read 0 = 0 | siteOf 0 3 = 100
            """);
    }

    private void goodTexts() {
        // Without them: share even, cap 100, idle 0 after 100.
        readDue("", 0, 0, 100, 0, 100);
        readDue(" ", 0, 0, 100, 0, 100);
        readDue("share even;", 1, 0, 100, 0, 100);
        readDue("share first;", 1, 1, 100, 0, 100);
        readDue("cap 0;", 1, 0, 0, 0, 100);
        readDue("idle 0 after 0;", 1, 0, 100, 0, 0);
        readDue("idle 100 after 100;", 1, 0, 100, 100, 100);
        // In any order, with blanks anywhere between.
        readDue("cap 1;share first;idle 2 after 3;", 3, 1, 1, 2, 3);
        readDue("idle 2 after 3;cap 1;share even;", 3, 0, 1, 2, 3);
        readDue("  idle  2  after  3  ;  cap  1  ;  share  first  ;  ", 3, 1, 1, 2, 3);
        readDue("idle2after3;cap1;share even;", 3, 0, 1, 2, 3);
        // A hundred bytes.
        readDue("cap 5;" + " ".repeat(94), 1, 0, 5, 0, 100);
        readDue(" ".repeat(94) + "cap 5;", 1, 0, 5, 0, 100);
        readDue("cap" + " ".repeat(95) + "5;", 1, 0, 5, 0, 100);
        readDue(" ".repeat(100), 0, 0, 100, 0, 100);
    }

    /** N: 0 to 100; NUMBERS are rows of digits, 3 at most. */
    private void everyNumber() {
        for (int n = 0; n <= 999; n++) {
            boolean good = n <= 100;
            for (String form : new String[] {"%d", "%02d", "%03d"}) {
                String digits = String.format(form, n);
                readDue("cap " + digits + ";", good ? 1 : -104, 0, n, 0, 100);
                readDue("idle " + digits + " after 5;", good ? 1 : -105, 0, 100, n, 5);
                readDue("idle 5 after " + digits + ";", good ? 1 : -113, 0, 100, 5, n);
            }
        }
        for (String digits : new String[] {"0000", "0001", "0100", "1000", "9999", "00000", "4294967296", "4294967301", "18446744073709551621"}) {
            readDue("cap " + digits + ";", -104);
            readDue("idle " + digits + " after 5;", -105);
            readDue("idle 5 after " + digits + ";", -113);
        }
    }

    private static boolean isLetter(int b) {
        return b >= 97 && b <= 122;
    }

    private static boolean isDigit(int b) {
        return b >= 48 && b <= 57;
    }

    /** WORDS are rows of letters a to z, NUMBERS rows of digits, as long as they go; blanks (32) between; other bytes stand alone. */
    private void everyByte() {
        for (int b = 0; b < 256; b++) {
            char c = (char) b;
            readDue("" + c, b == 32 ? 0 : -100, 0, 100, 0, 100);
            readDue("cap 5;" + c, b == 32 ? 1 : -106, 0, 5, 0, 100);
            readDue("  " + c + "cap 5;", b == 32 ? 1 : -102, 0, 5, 0, 100);
            readDue("cap" + c + "5;", b == 32 || isDigit(b) ? 1 : isLetter(b) ? -100 : -103,
                    0, isDigit(b) ? (b - 48) * 10 + 5 : 5, 0, 100);
            readDue("ca" + c + " 5;", b == 'p' ? 1 : -100, 0, 5, 0, 100);
            readDue("cap 5" + c + ";", b == 32 || isDigit(b) ? 1 : b == ';' ? -106 : -105, 0, isDigit(b) ? 50 + b - 48 : 5, 0, 100);
            readDue("cap 5" + c, b == ';' ? 1 : b == 32 || isDigit(b) ? -106 : -105, 0, 5, 0, 100);
            readDue("cap 100" + c + ";", b == 32 ? 1 : isDigit(b) ? -104 : b == ';' ? -108 : -107, 0, 100, 0, 100);
            readDue("cap " + c + "5;", b == 32 || isDigit(b) ? 1 : -104, 0, isDigit(b) ? (b - 48) * 10 + 5 : 5, 0, 100);
            readDue("share" + c + "even;", b == 32 ? 1 : isLetter(b) ? -100 : -105, 0, 100, 0, 100);
            readDue("share firs" + c + ";", b == 't' ? 1 : -106, 1, 100, 0, 100);
            readDue("share eve" + c + ";", b == 'n' ? 1 : -106, 0, 100, 0, 100);
            readDue("share even" + c, b == ';' ? 1 : isLetter(b) ? -106 : b == 32 ? -111 : -110, 0, 100, 0, 100);
            readDue("idle 4" + c + "after 5;", b == 32 || isDigit(b) ? 1 : -106, 0, 100, isDigit(b) ? 40 + b - 48 : 4, 5);
            readDue("idle 4 after" + c + "5;", b == 32 || isDigit(b) ? 1 : isLetter(b) ? -107 : -112, 0, 100, 4, isDigit(b) ? (b - 48) * 10 + 5 : 5);
            readDue("idle 4 afte" + c + " 5;", b == 'r' ? 1 : -107, 0, 100, 4, 5);
        }
    }

    /** Or the end (how many bytes there are), if more must come: each beginning of a text that ends behind a whole word or number. */
    private void everyBeginning() {
        String text = "share first ; cap 10 ; idle 20 after 30 ;";
        for (int end = 0; end <= text.length(); end++) {
            String begin = text.substring(0, end);
            String[] rules = begin.split(";", -1);
            String open = rules[rules.length - 1].strip();
            int openAt = begin.lastIndexOf(';') + 1;
            int lastWord = Math.max(begin.stripTrailing().lastIndexOf(' ') + 1, openAt);
            boolean whole = open.isEmpty() || open.matches("share|share first|cap|cap 10?|idle|idle 20?|idle 20 after|idle 20 after 30?");
            int due = open.isEmpty() ? rules.length - 1 : whole ? -100 - end : -100 - lastWord;
            RoadPlugs plugs = withSite();
            Script.feedText(plugs, begin);
            s.due("read of '" + begin + "'", plugs.read(0), due);
        }
    }

    /** Each at most once (of share just one): the fault is at the first word of the second one. */
    private void twiceTheSame() {
        readDue("share even;share even;", -111);
        readDue("share even;share first;", -111);
        readDue("share first; share even;", -113);
        readDue("share first;share", -112);
        readDue("cap 5;cap 5;", -106);
        readDue("cap 0;cap 1;", -106);
        readDue("cap 100;  cap", -110);
        readDue("idle 0 after 0;idle 0 after 0;", -115);
        readDue("idle 1 after 2;share even;idle x", -126);
        readDue("cap 1;share even;idle 1 after 2;cap 2;", -132);
        readDue("cap 1;share even;idle 1 after 2;after", -132);
        readDue("cap 1;share even;idle 1 after 2;;", -132);
        readDue("cap 1;share even;idle 1 after 2; ", 3, 0, 1, 1, 2);
        // The first one that is wrong counts, not a later one.
        readDue("cap 101;cap 5;x", -104);
        readDue("share even;x cap 1000;", -111);
    }

    private void faultsOfATapeThatIsFull() {
        readDue(" ".repeat(99) + "x", -199);
        readDue("cap" + " ".repeat(97), -200);
        readDue(" ".repeat(95) + "cap 5", -200);
        readDue(" ".repeat(96) + "cap ", -200);
        readDue("a".repeat(100), -100);
        readDue("1".repeat(100), -100);
        readDue("cap " + "0".repeat(96), -104);
        readDue(";".repeat(100), -100);
    }

    private void siteOfs() {
        s.run("12 there is none such", """
            siteOf 0 0 = -1 | site 7 8 = 0 | siteOf 0 0 = 7 | siteOf 1 0 = -1 | siteOf -1 0 = -1 | siteOf 2147483647 0 = -1 | siteOf -2147483648 0 = -1
            """);
        s.run("12 another what", """
            site 7 8 = 0 | siteOf 0 -1 = -1 | siteOf 0 9 = -1 | siteOf 0 8 = 0 | siteOf 0 2147483647 = -1 | siteOf 0 -2147483648 = -1
            """);
        s.run("12 CARS in the QUEUE: none, all, and those at PLUGS are not in it", """
            site 7 8 = 0 | plug 0 1 0 = 0 | siteOf 0 6 = 0 | car 10 1 1 0 0 = 0 | car 10 1 1 0 0 = 1 | car 10 1 1 0 0 = 2 | car 10 1 1 0 0 = 3
            car 10 1 1 0 0 = 4 | car 10 1 1 0 0 = 5 | car 10 1 1 0 0 = 6 | car 10 1 1 0 0 = 7 | car 10 1 1 0 0 = 8 | car 10 1 1 0 0 = 9
            car 10 1 1 0 0 = 10 | car 10 1 1 0 0 = 11 | come 0 0 5 0 = 0 | come 1 0 5 0 = 1 | come 2 0 5 0 = 2 | come 3 0 5 0 = 3 | come 4 0 5 0 = 4
            come 5 0 5 0 = 5 | come 6 0 5 0 = 6 | come 7 0 5 0 = 7 | come 8 0 5 0 = 8 | come 9 0 5 0 = 9 | come 10 0 5 0 = 10 | siteOf 0 6 = 11
            come 11 0 5 0 = 11 | siteOf 0 6 = 12 | ticks 1 = 1 | siteOf 0 6 = 11 | many 4 = 11 | many 5 = 1 | leave 5 = 100 | siteOf 0 6 = 10
            """);
        s.run("12 units that it gave in all", """
            site 7 3 = 0 | site 8 9 = 1 | plug 0 5 0 = 0 | plug 1 5 0 = 1 | car 50 1 5 0 0 = 0 | car 50 1 5 0 0 = 1 | siteOf 0 8 = 0
            come 0 0 9 0 = 0 | come 1 1 9 0 = 0 | ticks 2 = 15 | siteOf 0 8 = 6 | siteOf 1 8 = 9 | ticks 4 = 3 | siteOf 0 8 = 9 | siteOf 1 8 = 9
            come 0 1 10 0 = 0 | ticks 1 = 1 | siteOf 0 8 = 9 | siteOf 1 8 = 10
            """);
    }
}
