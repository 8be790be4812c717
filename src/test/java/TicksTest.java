/** Promises 13 to 18: come, leave, go, fail, ticks, plugOf. */
public final class TicksTest {
    public static void main(String[] args) {
        Script s = new Script();
        comings(s);
        sharing(s);
        parting(s);
        failing(s);
        s.end("TicksTest");
    }

    private static void comings(Script s) {
        s.run("13 come", """
            come 0 0 0 0 = -1 | site 0 9 = 0 | come 0 0 0 0 = -1 | car 50 1 4 0 10 = 0 | car 50 1 4 0 10 = 1
            come -1 0 10 0 = -1 | come 2 0 10 0 = -1 | come 0 1 10 0 = -1 | come 0 -1 10 0 = -1
            come 0 0 9 0 = -1 | come 0 0 51 0 = -1 | come 0 0 10 -1 = -1 | come 0 0 10 51 = -1 | of 0 1 = 0 | of 0 2 = 0
            come 1 0 50 50 = 0 | come 0 0 10 0 = 1 | come 0 0 10 0 = -4 | come 0 0 9 0 = -1 | of 0 1 = 100 | of 1 7 = 0 | of 0 7 = 1
            of 1 2 = 50 | siteOf 0 6 = 2 | many 4 = 2
            """);
        s.run("14 leave", """
            site 0 9 = 0 | site 1 9 = 1 | plug 1 4 0 = 0 | plug 1 4 1 = 1
            car 50 1 4 0 10 = 0 | car 50 1 4 0 10 = 1 | car 50 1 4 0 10 = 2 | car 50 1 4 1 10 = 3
            leave 0 = -4 | leave 4 = -1 | leave -1 = -1
            come 0 1 20 0 = 0 | come 1 1 20 0 = 1 | come 2 1 20 0 = 2 | come 3 1 20 0 = 3 | ticks 1 = 8
            of 1 7 = 0 | of 2 7 = 1 | leave 1 = 101 | of 2 7 = 0 | of 1 7 = -3 | of 1 1 = 0 | leave 1 = -4
            leave 3 = 201 | plugOf 1 3 = -3 | of 3 0 = 14 | many 5 = 1 | leave 0 = 200 | plugOf 0 3 = -3 | many 5 = 0
            ticks 1 = 4 | plugOf 0 3 = 2 | come 0 1 20 0 = 0
            """);
        s.run("15 go", """
            site 0 9 = 0 | car 50 10 4 0 10 = 0 | go 1 1 = -1 | go -1 1 = -1 | go 0 0 = -1 | go 0 1000 = -1 | go 0 -5 = -1
            go 0 101 = -3 | of 0 0 = 10 | come 0 0 20 0 = 0 | go 0 1 = -4 | go 0 0 = -1 | go 0 999 = -4 | leave 0 = 100
            go 0 1 = 9 | of 0 0 = 9 | go 0 90 = 0 | go 0 1 = -3 | many 0 = 0 | of 0 0 = 0
            """);
        s.run("15 go in the cold", """
            car 50 10 4 0 10 = 0 | set 0 50 = 0 | go 0 67 = -3 | go 0 66 = 0
            """);
        s.run("17 ticks, numbers", """
            ticks 0 = -1 | ticks -1 = -1 | ticks 101 = -1 | ticks 100 = 0 | many 0 = 100 | ticks 1 = 0 | many 0 = 101
            ticks 99 = 0 | ticks 100 = 0 | ticks 100 = 0 | ticks 100 = 0 | ticks 100 = 0 | ticks 100 = 0 | ticks 100 = 0
            ticks 100 = 0 | ticks 100 = 0 | ticks 100 = 0 | ticks 100 = 0 | ticks 100 = 0 | ticks 100 = 0 | ticks 100 = 0
            ticks 100 = 0 | ticks 100 = 0 | ticks 100 = 0 | ticks 100 = 0 | ticks 99 = 0 | many 0 = 1999
            ticks 2 = -4 | ticks 101 = -1 | many 0 = 1999 | ticks 1 = 0 | many 0 = 2000 | ticks 1 = -4
            """);
        s.run("18 plugOf", """
            site 0 9 = 0 | site 1 9 = 1 | plug 1 7 2 = 0 | plug 0 3 1 = 1 | car 50 1 4 2 0 = 0 | car 50 1 4 2 0 = 1
            plugOf -1 0 = -1 | plugOf 2 0 = -1 | plugOf 0 7 = -1 | plugOf 0 -1 = -1
            plugOf 0 0 = 1 | plugOf 0 1 = 7 | plugOf 0 2 = 2 | plugOf 0 3 = -3 | plugOf 0 4 = 0 | plugOf 0 5 = 1 | plugOf 0 6 = 0
            come 1 1 50 0 = 0 | ticks 1 = 4 | plugOf 0 3 = 1 | plugOf 0 6 = 1 | plugOf 1 3 = -3 | plugOf 1 6 = 0
            tried 0 0 true = 2 | plugOf 0 4 = 0 | tried 0 1 true = 3 | plugOf 0 4 = 1 | plugOf 1 4 = 0 | plugOf 0 6 = 3
            says 0 false = 1 | plugOf 0 5 = 0
            """);
    }

    private static void sharing(Script s) {
        s.run("17 (1) free plugs take the first car of their cable", """
            site 0 99 = 0 | plug 0 5 1 = 0 | plug 0 5 0 = 1 | car 50 1 5 0 0 = 0 | car 50 1 5 0 0 = 1 | car 50 1 5 1 0 = 2
            car 50 1 5 2 0 = 3
            come 3 0 50 0 = 0 | come 1 0 50 0 = 1 | come 0 0 50 0 = 2 | come 2 0 50 0 = 3 | ticks 1 = 10
            plugOf 0 3 = 2 | plugOf 1 3 = 1 | of 3 7 = 0 | of 0 7 = 1 | of 3 4 = 1 | of 1 4 = 0 | many 4 = 2 | many 5 = 2
            """);
        s.run("17 (3) even: parts, then one by one", """
            site 0 20 = 0 | plug 0 15 0 = 0 | plug 0 2 0 = 1 | plug 0 15 0 = 2 | plug 0 3 0 = 3
            car 50 1 50 0 0 = 0 | car 50 1 50 0 0 = 1 | car 50 1 50 0 0 = 2 | car 50 1 50 0 0 = 3
            come 0 0 50 0 = 0 | come 1 0 50 0 = 1 | come 2 0 50 0 = 2 | come 3 0 50 0 = 3
            ticks 1 = 20 | of 0 0 = 7 | of 1 0 = 2 | of 2 0 = 8 | of 3 0 = 3 | ticks 1 = 20 | of 0 0 = 14 | of 2 0 = 16
            """);
        s.run("17 (3) even: a small power goes to the later ones, then round from the first", """
            site 0 3 = 0 | plug 0 9 0 = 0 | plug 0 1 0 = 1 | plug 0 1 0 = 2
            car 50 1 50 0 0 = 0 | car 50 1 50 0 0 = 1 | car 50 1 50 0 0 = 2 | car 50 1 50 0 0 = 3
            come 0 0 50 0 = 0 | ticks 1 = 3 | come 1 0 50 0 = 0 | ticks 1 = 3 | of 0 0 = 5 | of 1 0 = 1
            come 2 0 50 0 = 0 | ticks 1 = 3 | of 0 0 = 6 | of 1 0 = 2 | of 2 0 = 1
            """);
        s.run("17 (3) even: power below the cars that ask", """
            site 0 2 = 0 | plug 0 9 0 = 0 | plug 0 9 0 = 1 | plug 0 9 0 = 2
            car 50 1 50 0 0 = 0 | car 50 1 50 0 0 = 1 | car 50 1 50 0 0 = 2
            come 0 0 50 0 = 0 | come 1 0 50 0 = 1 | come 2 0 50 0 = 2 | ticks 1 = 2 | of 0 0 = 0 | of 1 0 = 1 | of 2 0 = 1
            """);
        s.run("17 (3) first: by when they came, then by plugs", """
            site 0 10 = 0 | plug 0 6 0 = 0 | plug 0 6 0 = 1 | plug 0 6 0 = 2
            car 50 1 50 0 0 = 0 | car 50 1 50 0 0 = 1 | car 50 1 50 0 0 = 2 | car 50 1 50 0 0 = 3
            tape share first;
            read 0 = 1
            come 0 0 50 0 = 0 | come 1 0 50 0 = 1 | come 2 0 50 0 = 2 | ticks 1 = 10 | of 0 0 = 6 | of 1 0 = 4 | of 2 0 = 0
            leave 0 = 200 | come 3 0 50 0 = 0 | ticks 1 = 10 | of 3 0 = 0 | of 1 0 = 10 | of 2 0 = 4 | plugOf 0 3 = 3
            ticks 2 = 20 | of 3 0 = 0 | of 1 0 = 22 | of 2 0 = 12
            """);
        s.run("17 (3) not more than to the want; prices by hours", """
            site 0 300 = 0 | plug 0 10 0 = 0 | car 200 1 50 0 0 = 0 | set 10 1 = 10 | set 11 2 = 10 | set 33 7 = 10
            come 0 0 115 0 = 0 | ticks 11 = 110 | of 0 6 = 110 | ticks 1 = 5 | of 0 6 = 115 | of 0 1 = 0 | of 0 0 = 115
            come 0 0 130 0 = 0 | ticks 2 = 15 | of 0 6 = 145 | of 0 3 = 130 | ticks 100 = 0 | ticks 100 = 0 | ticks 62 = 0
            many 0 = 276 | come 0 0 150 0 = 0 | ticks 1 = 10 | of 0 6 = 215 | ticks 10 = 10 | many 0 = 287
            come 0 0 155 0 = 0 | ticks 1 = 5 | of 0 6 = 320 | come 0 0 157 0 = 0 | ticks 1 = 2 | of 0 6 = 322
            many 11 = 322 | many 10 = 157 | siteOf 0 8 = 157
            """);
        s.run("17 (3) the cold and the slow end count", """
            site 0 300 = 0 | plug 0 20 0 = 0 | car 100 1 50 0 60 = 0 | set 0 50 = 0 | come 0 0 100 0 = 0
            ticks 1 = 10 | ticks 1 = 10 | ticks 1 = 5 | ticks 2 = 10 | of 0 0 = 95 | ticks 1 = 2 | ticks 1 = 2 | ticks 1 = 1
            ticks 1 = 0 | of 0 1 = 0
            """);
        s.run("17 sites go by themselves", """
            site 0 5 = 0 | site 1 6 = 1 | plug 1 9 0 = 0 | plug 0 9 0 = 1 | car 50 1 9 0 0 = 0 | car 50 1 9 0 0 = 1
            come 0 0 50 0 = 0 | come 1 1 50 0 = 0 | ticks 1 = 11 | of 0 1 = 201 | of 1 1 = 200 | of 0 0 = 5 | of 1 0 = 6
            siteOf 0 8 = 5 | siteOf 1 8 = 6 | tryOf 0 0 = 1 | tryOf 1 0 = 0
            """);
    }

    private static void parting(Script s) {
        s.run("17 (4) stay 0 leaves at once; stay counts idle ticks", """
            site 0 99 = 0 | plug 0 5 0 = 0 | plug 0 5 0 = 1 | plug 0 5 0 = 2 | car 50 1 5 0 0 = 0 | car 50 1 5 0 0 = 1
            car 50 1 5 0 0 = 2 | come 0 0 5 0 = 0 | come 1 0 5 1 = 1 | come 2 0 5 2 = 2 | ticks 1 = 15
            of 0 1 = 0 | of 1 1 = 201 | of 2 1 = 202 | of 1 5 = 0 | ticks 1 = 0 | of 1 1 = 0 | of 1 5 = 1 | of 2 1 = 202
            ticks 1 = 0 | of 2 1 = 0 | of 2 5 = 2 | of 0 5 = 0
            """);
        s.run("17 (4) at its want as it comes: idle in its first tick", """
            site 0 99 = 0 | plug 0 5 0 = 0 | plug 0 5 0 = 1 | car 50 1 5 0 7 = 0 | car 50 1 5 0 7 = 1
            come 0 0 7 0 = 0 | come 1 0 7 2 = 1 | ticks 1 = 0 | of 0 1 = 0 | of 0 5 = 1 | of 1 1 = 201 | of 1 5 = 1
            many 6 = 2 | tryOf 0 3 = 0 | ticks 1 = 0 | of 1 1 = 0 | of 1 5 = 2 | many 6 = 2
            """);
        s.run("17 (4) cap: only while somebody with its cable is in the queue", """
            site 0 99 = 0 | plug 0 5 0 = 0 | car 50 1 5 0 0 = 0 | car 50 1 5 1 0 = 1 | car 50 1 5 0 0 = 2
            tape cap 30;
            read 0 = 1 | come 0 0 50 9 = 0 | come 1 0 50 9 = 1 | ticks 4 = 20 | of 0 1 = 200
            come 2 0 50 9 = 1 | ticks 1 = 5 | of 0 1 = 0 | of 0 0 = 25 | of 2 1 = 100 | of 0 5 = 0
            ticks 1 = 5 | of 2 1 = 200 | come 0 0 50 0 = 1 | ticks 1 = 5 | of 2 1 = 200 | ticks 1 = 5 | of 2 0 = 15 | of 2 1 = 0
            """);
        s.run("17 (4) cap 100 at first: a full car makes room, and is not idle then", """
            site 0 99 = 0 | plug 0 50 0 = 0 | car 50 1 50 0 49 = 0 | car 50 1 5 0 0 = 1 | come 0 0 50 50 = 0
            ticks 1 = 1 | ticks 1 = 0 | of 0 5 = 1 | come 1 0 50 0 = 0 | ticks 1 = 0 | of 0 1 = 0 | of 0 5 = 1 | of 1 1 = 100
            of 1 4 = 1 | ticks 1 = 5 | of 1 1 = 200
            """);
        s.run("17 (4) cap: percents of the battery to the edge", """
            site 0 99 = 0 | plug 0 1 0 = 0 | car 200 1 50 0 196 = 0 | car 50 1 5 0 0 = 1
            come 0 0 199 50 = 0 | come 1 0 50 0 = 1 | ticks 9 = 3 | of 0 0 = 199 | of 0 1 = 200
            tape cap 99;
            read 0 = 1 | ticks 1 = 0 | of 0 1 = 0 | of 1 1 = 100 | leave 1 = 100 | go 0 100 = 198 | come 0 0 200 0 = 0 | come 1 0 1 0 = 1
            ticks 1 = 1 | of 0 1 = 0
            """);
        s.run("17 (4) cap: just below", """
            site 0 99 = 0 | plug 0 1 0 = 0 | car 200 1 50 0 98 = 0 | car 50 1 5 0 0 = 1
            tape cap 50;
            read 0 = 1 | come 0 0 200 0 = 0 | come 1 0 50 0 = 1 | ticks 1 = 1 | of 0 0 = 99 | of 0 1 = 200 | ticks 1 = 1 | of 0 1 = 0
            """);
        s.run("17 (4) at its want below the cap it stays though somebody waits", """
            site 0 99 = 0 | plug 0 5 0 = 0 | car 50 1 5 0 0 = 0 | car 50 1 5 0 0 = 1 | come 0 0 5 3 = 0 | come 1 0 5 0 = 1
            ticks 3 = 5 | of 0 1 = 200 | of 0 5 = 2 | of 1 4 = 3 | ticks 1 = 0 | of 0 1 = 0 | of 0 5 = 3 | of 1 4 = 4
            """);
        s.run("17 idle is paid behind the first ones of a coming", """
            site 0 99 = 0 | plug 0 5 0 = 0 | car 50 1 5 0 0 = 0 | set 10 0 = 10 | set 11 0 = 10
            tape idle 7 after 2;
            read 0 = 1 | come 0 0 5 5 = 0 | ticks 3 = 5 | of 0 5 = 2 | of 0 6 = 0 | ticks 1 = 0 | of 0 6 = 7 | ticks 2 = 0
            of 0 6 = 21 | of 0 5 = 5 | of 0 1 = 0 | come 0 0 5 3 = 0 | ticks 2 = 0 | of 0 6 = 21 | ticks 1 = 0 | of 0 6 = 28
            of 0 5 = 8 | of 0 1 = 0 | many 11 = 28
            """);
        s.run("17 idle after 0", """
            site 0 99 = 0 | plug 0 5 0 = 0 | car 50 1 5 0 5 = 0
            tape idle 100 after 0;
            read 0 = 1 | come 0 0 5 0 = 0 | ticks 1 = 0 | of 0 6 = 100 | of 0 5 = 1
            """);
    }

    private static void failing(Script s) {
        s.run("16 fail", """
            fail 0 true = -1 | site 0 1 = 0 | plug 0 1 0 = 0 | plug 0 1 0 = 1 | fail -1 true = -1 | fail 2 true = -1
            fail 0 false = 0 | fail 0 true = 1 | fail 0 true = 0 | fail 1 true = 1 | fail 0 false = 1 | fail 0 false = 0
            plugOf 0 4 = 0 | plugOf 0 5 = 1 | lies = 0 | many 6 = 0
            """);
        s.run("17 (2) failing plugs: back to the front, the last one first", """
            site 0 99 = 0 | plug 0 5 0 = 0 | plug 0 5 0 = 1 | plug 0 5 0 = 2
            car 50 1 5 0 0 = 0 | car 50 1 5 0 0 = 1 | car 50 1 5 0 0 = 2 | car 50 1 5 0 0 = 3
            fail 0 true = 1 | fail 2 true = 1 | come 0 0 50 0 = 0 | come 1 0 50 0 = 1 | come 2 0 50 0 = 2 | come 3 0 50 0 = 3
            ticks 1 = 5 | of 2 7 = 0 | of 0 7 = 1 | of 3 7 = 2 | of 1 1 = 201 | of 0 6 = 0 | of 1 6 = 50
            of 0 4 = 1 | of 2 4 = 1 | of 3 4 = 1 | of 1 4 = 0 | many 6 = 3
            tryOf 0 0 = 0 | tryOf 0 1 = 0 | tryOf 0 2 = 0 | tryOf 0 3 = 1 | tryOf 1 0 = 2 | tryOf 1 1 = 2 | tryOf 1 3 = 1
            tryOf 2 0 = 1 | tryOf 2 1 = 1 | tryOf 2 3 = 0
            ticks 1 = 5 | many 6 = 5 | tryOf 3 0 = 0 | tryOf 3 1 = 2 | tryOf 3 2 = 1 | tryOf 4 0 = 2 | tryOf 4 1 = 0
            plugOf 0 4 = 1 | plugOf 2 4 = 1 | lies = 5 | of 0 7 = 0 | of 2 7 = 1 | of 3 7 = 2
            """);
        s.run("17 (1) not again since it came; after a new coming it may", """
            site 0 99 = 0 | plug 0 5 0 = 0 | car 50 1 5 0 0 = 0 | fail 0 true = 1 | come 0 0 50 0 = 0 | ticks 1 = 0
            fail 0 false = 1 | ticks 5 = 0 | of 0 1 = 100 | of 0 4 = 6 | many 6 = 1 | leave 0 = 100 | come 0 0 50 0 = 0
            ticks 1 = 5 | of 0 1 = 200 | many 6 = 2 | tryOf 1 3 = 0 | tryOf 1 2 = 6
            """);
        s.run("17 a plug that fails while a car charges", """
            site 0 99 = 0 | plug 0 5 0 = 0 | car 50 1 5 0 0 = 0 | come 0 0 50 0 = 0 | ticks 2 = 10 | many 6 = 1
            fail 0 true = 1 | ticks 1 = 0 | of 0 1 = 100 | of 0 0 = 10 | of 0 6 = 100 | many 6 = 2 | tryOf 1 3 = 1
            fail 0 false = 1 | ticks 1 = 0 | of 0 1 = 100 | plug 0 5 0 = 1 | ticks 1 = 5 | of 0 1 = 201 | many 6 = 3
            """);
        s.run("17 idle ticks of one coming go on at another plug", """
            site 0 99 = 0 | plug 0 5 0 = 0 | plug 0 5 0 = 1 | car 50 1 5 0 5 = 0 | come 0 0 5 4 = 0 | ticks 2 = 0 | of 0 5 = 2
            fail 0 true = 1 | ticks 1 = 0 | of 0 5 = 2 | of 0 1 = 100 | ticks 2 = 0 | of 0 5 = 4 | of 0 1 = 0
            """);
        s.run("17 those that are sent back count for the cap", """
            site 0 99 = 0 | plug 0 5 0 = 0 | plug 0 5 0 = 1 | car 50 1 5 0 0 = 0 | car 50 1 5 0 0 = 1
            tape cap 10;
            read 0 = 1 | fail 1 true = 1 | come 0 0 50 0 = 0 | come 1 0 50 0 = 1 | ticks 1 = 5 | of 0 1 = 0 | of 1 1 = 100
            """);
    }
}
