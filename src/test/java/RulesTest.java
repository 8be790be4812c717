/** Promises 10 to 12: feed, read, siteOf. */
public final class RulesTest {
    public static void main(String[] args) {
        Script s = new Script();
        s.run("10 feed", """
            feed 0 0 = -1 | feed 0 9 = -1 | feed 0 -1 = -1 | many 9 = 0 | feed -1 8 = 8 | feed 5 1 = 9 | many 9 = 9
            feed 0 8 = 17 | feed 0 8 = 25 | feed 0 8 = 33 | feed 0 8 = 41 | feed 0 8 = 49 | feed 0 8 = 57 | feed 0 8 = 65
            feed 0 8 = 73 | feed 0 8 = 81 | feed 0 8 = 89 | feed 0 7 = 96 | feed 0 5 = -2 | feed 0 9 = -1 | many 9 = 96
            feed 0 4 = 100 | feed 0 1 = -2 | many 9 = 100 | read 0 = -1 | many 9 = 0 | feed 0 1 = 1
            """);
        s.run("10 feed, the lowest byte first", """
            site 0 1 = 0 | feed 16669941146083683 7 = 7 | read 0 = 1 | siteOf 0 3 = 99 | feed 16669941146083683 6 = 6 | read 0 = -106
            """);
        s.run("11 read, rules", """
            site 0 1 = 0 | site 5 1 = 1
            tape share first;cap 0;idle 100 after 7;
            many 9 = 35 | read 1 = 3 | many 9 = 0 | siteOf 1 2 = 1 | siteOf 1 3 = 0 | siteOf 1 4 = 100 | siteOf 1 5 = 7
            siteOf 0 2 = 0 | siteOf 0 3 = 100 | siteOf 0 4 = 0 | siteOf 0 5 = 100
            tape   idle 3 after 000 ; share   even;|
            read 1 = 2 | siteOf 1 2 = 0 | siteOf 1 3 = 100 | siteOf 1 4 = 3 | siteOf 1 5 = 0
            tape cap 050;    |
            read 1 = 1 | siteOf 1 3 = 50 | siteOf 1 4 = 0 | siteOf 1 5 = 100
            tape cap 1
            read 1 = -105 | siteOf 1 3 = 50
            tape share first;cap 101;
            read 1 = -116 | siteOf 1 2 = 0 | siteOf 1 3 = 50
            read 1 = 0 | siteOf 1 3 = 100
            tape    |
            read 1 = 0
            tape cap12;idle3after4;share even;
            read 1 = 3 | siteOf 1 3 = 12 | siteOf 1 4 = 3 | siteOf 1 5 = 4
            tape idle 0 after 5;cap 0;
            read 1 = 2 | siteOf 1 3 = 0 | siteOf 1 4 = 0 | siteOf 1 5 = 5
            """);
        faults(s);
        s.run("11 read, the tape is used up by a refusal", """
            tape cap 1;
            many 9 = 6 | read 0 = -1 | many 9 = 0 | site 0 1 = 0
            tape cap 1;
            read -1 = -1 | read 1 = -1 | read 0 = 0 | siteOf 0 3 = 100
            """);
        s.run("12 siteOf", """
            site 7 8 = 0 | site 9 300 = 1 | siteOf -1 0 = -1 | siteOf 2 0 = -1 | siteOf 0 9 = -1 | siteOf 0 -1 = -1
            siteOf 0 0 = 7 | siteOf 0 1 = 8 | siteOf 1 0 = 9 | siteOf 1 1 = 300 | plug 1 5 0 = 0 | car 50 1 5 0 0 = 0
            car 50 1 5 0 0 = 1 | come 0 1 50 0 = 0 | come 1 1 50 0 = 1 | siteOf 1 6 = 2 | siteOf 0 6 = 0 | set 41 9 = 0
            siteOf 1 7 = 9 | ticks 2 = 10 | siteOf 1 6 = 1 | siteOf 1 8 = 10 | siteOf 0 8 = 0
            """);
        s.end("RulesTest");
    }

    private static void faults(Script s) {
        String[] texts = {
            ";", "x", "shar", "share", "share ", "share even", "share even ", "share evens;", "share 5;", "share even;;",
            "sharefirst;", "share even;share even;", "share even; share first;", "cap 5;cap 6;", "cap 5;  cap",
            "idle 1 after 2;idle", "cap", "cap ;", "cap x;", "cap 100", "cap 100 0;", "cap 1000;", "cap 0001;", "cap 999;",
            "cap 5 5;", "idle", "idle 5 ", "idle 5;", "idle 101 after 1;", "idle 5 before 1;", "idle 5 after", "idle 5 after x",
            "idle 5 after 101;", "idle 5 after 10", "idle 5 5", "cap -1;", "cap\t1;", "CAP 1;", "caP 1;", "5;", "cap 5;5",
            "cap 5;even", "cap 5; ; ", "cap 5,", "share even first;", "idle 5after1;cap 4;x", "after 5;", "cap 5\u00e9",
            "\u00e9", "cap 5;\0", "cap 12a;", "share first;cap 5;idle 5 after 5;z",
            "idle 0 after 0;idle 5 after 5;", "cap 0;cap 0;", "capz 5;", "acap 5;", "share evenz;", "cap `5;", "cap {5;", "cap /5;", "cap :5;",
        };
        int[] faults = {
            0, 0, 0, 5, 6, 10, 11, 6, 6, 11,
            0, 11, 12, 6, 8,
            15, 3, 4, 4, 7, 8, 4, 4, 4,
            6, 4, 7, 6, 5, 7, 12, 13,
            13, 15, 7, 4, 3, 0, 0, 0, 6,
            6, 7, 5, 11, 19, 0, 5,
            0, 6, 6, 33,
            15, 6, 0, 0, 6, 4, 4, 4, 4,
        };
        s.due("faults are as many as texts", faults.length, texts.length);
        for (int i = 0; i < texts.length; i++) {
            RoadPlugs plugs = new RoadPlugs();
            plugs.site(0, 1);
            Script.feedText(plugs, "share first;idle 4 after 5;");
            s.due("rules", plugs.read(0), 2);
            Script.feedText(plugs, texts[i]);
            s.due("read of '" + texts[i] + "'", plugs.read(0), -100 - faults[i]);
            s.due("share stays", plugs.siteOf(0, 2), 1);
            s.due("cap stays", plugs.siteOf(0, 3), 100);
            s.due("idle stays", plugs.siteOf(0, 4), 4);
            s.due("after stays", plugs.siteOf(0, 5), 5);
            s.due("the tape is used up", plugs.many(9), 0);
        }
    }
}
