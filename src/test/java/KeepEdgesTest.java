/** The edges that promises 28 and 29 name, and those of what is kept: each run is for one sentence, told by its name. */
public final class KeepEdgesTest {
    public static void main(String[] args) {
        Script s = new Script();
        s.run("29 NONE: nothing is kept", "back = -3 | site 1 1 = 0 | ticks 3 = 0 | back = -3 | many 0 = 3 | many 1 = 1 | keep = 1 | back = 1");
        s.run("28 a new object may be kept", """
            keep = 1 | site 1 1 = 0 | plug 0 1 0 = 0 | car 10 1 1 0 0 = 0 | ticks 3 = 0 | set 0 5 = 0 | set 1 5 = 0 | set 10 5 = 10 | line false 1 1 1 = 0
            tried 0 0 true = 1 | back = 1 | many 0 = 0 | many 1 = 0 | many 2 = 0 | many 3 = 0 | many 6 = 0 | many 7 = 0 | set 0 0 = 0 | set 1 0 = 0 | set 10 1 = 10
            siteOf 0 0 = -1 | plugOf 0 0 = -1 | of 0 0 = -1
            """);
        s.run("28 all but THE TAPE is kept", """
            feed 32 3 = 3 | keep = 1 | feed 32 4 = 7 | back = 1 | many 9 = 7 | read 0 = -1 | many 9 = 0 | back = 1 | many 9 = 0 | feed 32 1 = 1
            """);
        s.run("29 what was kept stays", """
            site 1 1 = 0 | keep = 1 | site 2 1 = 1 | back = 1 | many 1 = 1 | site 3 1 = 1 | back = 1 | back = 1 | many 1 = 1 | site 4 1 = 1 | siteOf 1 0 = 4
            """);
        s.run("29 what was kept latest", """
            site 1 1 = 0 | keep = 1 | site 2 1 = 1 | keep = 1 | site 3 1 = 2 | back = 1 | many 1 = 2 | back = 1 | many 1 = 2
            """);
        s.run("29 what is changed behind keep does not change what is kept", """
            site 0 9 = 0 | plug 0 2 0 = 0 | plug 0 2 0 = 1 | car 50 1 2 0 0 = 0 | car 50 1 2 0 0 = 1 | come 0 0 9 3 = 0 | come 1 0 9 3 = 1 | ticks 2 = 8 | keep = 1
            ticks 9 = 10 | of 0 1 = 0 | of 0 5 = 3 | back = 1 | many 0 = 2 | of 0 1 = 200 | of 1 1 = 201 | of 0 0 = 4 | of 0 5 = 0 | many 10 = 8 | many 11 = 80
            ticks 9 = 10 | of 0 5 = 3 | of 0 1 = 0 | many 11 = 180
            """);
        s.run("28 FULL, and back from it", """
            site 1 1 = 0 | site 2 1 = 1 | site 3 1 = 2 | site 4 1 = 3 | site 5 1 = 4 | keep = 1 | site 6 1 = 5 | site 7 1 = -2 | back = 1 | site 7 1 = 5 | site 8 1 = -2
            siteOf 5 0 = 7
            """);
        s.run("28 PLUGS of a SITE, and back from more", """
            site 0 9 = 0 | site 1 9 = 1 | plug 0 1 0 = 0 | keep = 1 | plug 0 9 0 = 1 | back = 1 | plug 1 9 0 = 1 | car 50 1 9 0 0 = 0 | car 50 1 9 0 0 = 1
            come 0 0 9 0 = 0 | come 1 0 9 0 = 1 | ticks 1 = 1 | of 1 1 = 100 | plugOf 1 0 = 1
            """);
        s.run("28 COLD, DRIFT, PRICES, WAIT and RULES", """
            site 0 9 = 0 | set 0 1 = 0 | set 1 2 = 0 | set 10 3 = 10 | set 33 4 = 10 | set 40 5 = 0
            tape share first;cap 6;idle 7 after 8;
            read 0 = 3 | keep = 1 | set 0 50 = 1 | set 1 20 = 2 | set 10 99 = 3 | set 33 99 = 4 | set 40 99 = 5 | read 0 = 0 | siteOf 0 3 = 100 | back = 1
            siteOf 0 2 = 1 | siteOf 0 3 = 6 | siteOf 0 4 = 7 | siteOf 0 5 = 8 | siteOf 0 7 = 5 | set 0 0 = 1 | set 1 0 = 2 | set 10 0 = 3 | set 33 0 = 4 | set 40 0 = 5
            """);
        s.run("28 what a PLUG SAYS and whether it FAILS, and TRIES", """
            site 0 9 = 0 | plug 0 1 0 = 0 | car 10 1 1 0 0 = 0 | car 10 1 1 0 0 = 1 | fail 0 true = 1 | says 0 false = 1 | tried 0 0 true = 1 | keep = 1
            fail 0 false = 1 | says 0 true = 1 | tried 0 1 true = 2 | plugOf 0 4 = 1 | lies = 1 | back = 1 | plugOf 0 4 = 0 | plugOf 0 5 = 0 | many 6 = 1 | fail 0 true = 0
            lies = 0 | tryOf 1 0 = -3
            """);
        s.run("28 who has tried which PLUG since it came", """
            site 0 9 = 0 | plug 0 1 0 = 0 | car 10 1 1 0 0 = 0 | fail 0 true = 1 | come 0 0 9 0 = 0 | ticks 1 = 0 | fail 0 false = 1 | keep = 1 | leave 0 = 100
            come 0 0 9 0 = 0 | back = 1 | ticks 3 = 0 | of 0 1 = 100 | of 0 4 = 4
            """);
        s.run("28 who has not tried which PLUG since it came", """
            site 0 9 = 0 | plug 0 1 0 = 0 | car 10 1 1 0 0 = 0 | come 0 0 9 0 = 0 | keep = 1 | fail 0 true = 1 | ticks 1 = 0 | back = 1 | ticks 1 = 1 | of 0 1 = 200
            many 6 = 1 | tryOf 0 3 = 0
            """);
        s.run("28 when a CAR came to its PLUG", """
            site 0 6 = 0 | plug 0 5 0 = 0 | plug 0 5 0 = 1 | car 50 1 5 0 0 = 0 | car 50 1 5 0 0 = 1 | car 50 1 5 0 0 = 2
            tape share first;
            read 0 = 1 | come 0 0 50 0 = 0 | come 1 0 50 0 = 1 | ticks 1 = 6 | leave 0 = 200 | come 2 0 50 0 = 0 | ticks 1 = 6 | of 1 0 = 6 | of 2 0 = 1 | keep = 1
            leave 1 = 201 | come 1 0 50 0 = 0 | ticks 1 = 6 | of 2 0 = 6 | back = 1 | ticks 1 = 6 | of 1 0 = 11 | of 2 0 = 2 | many 6 = 3
            """);
        s.run("28 how many are in a QUEUE: more behind keep, and fewer", """
            site 0 9 = 0 | car 50 1 2 0 0 = 0 | car 50 1 2 0 0 = 1 | come 1 0 9 0 = 0 | keep = 1 | come 0 0 9 0 = 1 | siteOf 0 6 = 2 | back = 1 | siteOf 0 6 = 1 | many 4 = 1
            of 0 1 = 0 | of 1 7 = 0 | leave 1 = 100 | siteOf 0 6 = 0 | back = 1 | siteOf 0 6 = 1 | of 1 7 = 0 | come 0 0 9 0 = 1
            """);
        s.run("28 QUEUES, WANT, STAY and all counts", """
            site 0 9 = 0 | plug 0 2 0 = 0 | car 50 1 2 0 0 = 0 | car 50 1 2 0 0 = 1 | car 50 1 2 0 0 = 2 | come 0 0 3 2 = 0 | come 2 0 9 0 = 1 | come 1 0 8 0 = 2
            ticks 3 = 3 | of 0 5 = 1 | keep = 1 | leave 2 = 100 | leave 1 = 100 | leave 0 = 200 | come 1 0 20 5 = 0 | come 0 0 30 9 = 1 | come 2 0 40 9 = 2 | ticks 9 = 18
            siteOf 0 8 = 21 | of 1 3 = 18 | back = 1 | siteOf 0 8 = 3 | siteOf 0 6 = 2 | of 2 7 = 0 | of 1 7 = 1 | of 0 2 = 3 | of 1 2 = 8 | of 2 2 = 9 | of 0 3 = 3 | of 1 3 = 0
            of 0 4 = 0 | of 1 4 = 3 | of 2 4 = 3 | of 0 5 = 1 | of 0 6 = 30 | of 1 6 = 0 | ticks 1 = 0 | of 0 1 = 0 | of 0 5 = 2 | ticks 1 = 2 | of 2 1 = 200 | of 1 7 = 0
            """);
        s.run("28 TRIES that are driven out", "site 0 9 = 0 | plug 0 1 0 = 0 | plug 0 1 0 = 1 | car 10 1 1 0 0 = 0 | car 10 1 1 0 0 = 1 | tried 0 0 true = 1 | tried 0 1 true = 2 | ticks 2 = 0\n"
                + tries(58, 3) + "keep = 1 | ticks 1 = 0\n" + tries(3, 60) + """
            tryOf 0 0 = 1 | tryOf 0 1 = 0 | tryOf 59 2 = 3 | plugOf 0 4 = 0 | plugOf 0 6 = 0 | back = 1 | plugOf 0 6 = 2 | plugOf 0 4 = 1
            tryOf 0 0 = 0 | tryOf 0 1 = 0 | tryOf 0 2 = 0 | tryOf 0 3 = 1 | tryOf 1 0 = 0 | tryOf 1 1 = 1 | tryOf 1 2 = 0 | tryOf 1 3 = 1 | tryOf 2 0 = 1 | tryOf 59 2 = 2
            tried 0 0 false = 60 | tryOf 59 0 = 0 | tryOf 0 1 = 1
            """);
        s.run("28 LINES of both books", """
            set 1 3 = 0 | line false 1 5 50 = 0 | line true 1 6 52 = 0 | line true 2 6 50 = 1 | keep = 1 | clear = 3 | line false 2 9 70 = 0 | line true 3 0 0 = 0 | joined 0 = 0
            back = 1 | many 7 = 1 | many 8 = 2 | joined 0 = 1 | joined 1 = 2 | joined 10 = 0
            """);
        s.run("28 LINES: CAR, TICK and units of each", """
            line false 1 5 50 = 0 | line true 1 5 50 = 0 | keep = 1 | clear = 2 | line true 1 9 50 = 0 | back = 1 | joined 0 = 1 | clear = 2 | line true 1 5 60 = 0 | back = 1
            joined 0 = 1 | clear = 2 | line true 2 5 50 = 0 | back = 1 | joined 0 = 1 | clear = 2 | line false 1 9 50 = 0 | back = 1 | joined 0 = 1
            """);
        s.run("28 NOW at its end, and back from it", "keep = 1 | " + "ticks 100 = 0 | ".repeat(20) + "ticks 1 = -4 | back = 1 | many 0 = 0 | ticks 1 = 0 | many 0 = 1");
        s.end("KeepEdgesTest");
    }

    /** Rows of tries of plug 1 by car 0 that went well; the first of them is the number-th that is kept. */
    private static String tries(int times, int number) {
        StringBuilder rows = new StringBuilder();
        for (int i = 0; i < times; i++) {
            rows.append("tried 1 0 false = ").append(Math.min(60, number + i)).append(" | ");
        }
        return rows.append('\n').toString();
    }
}
