/** The edges that chapter 5 and promise 23 name: each run is for one sentence of the document, told by its name. */
public final class AdviceEdgesTest {
    public static void main(String[] args) {
        Script s = new Script();
        numbers(s);
        reach(s);
        sameAndParted(s);
        s.end("AdviceEdgesTest");
    }

    private static void numbers(Script s) {
        s.run("23 n is 1 to how many CARS there are", """
            advice 0 0 0 = -1 | advice 1 0 0 = -1 | car 10 1 1 0 9 = 0 | advice 0 0 0 = -1 | advice -1 0 0 = -1 | advice 1 0 0 = 0 | advice 2 0 0 = -1
            car 10 1 1 0 9 = 1 | advice 2 0 0 = 0 | advice 3 0 0 = -1 | advice 2147483647 0 0 = -1 | advice -2147483648 0 0 = -1
            """);
        s.run("23 n is all CARS that may be", """
            car 10 1 1 0 0 = 0 | car 10 1 1 0 0 = 1 | car 10 1 1 0 0 = 2 | car 10 1 1 0 0 = 3 | car 10 1 1 0 0 = 4 | car 10 1 1 0 0 = 5 | car 10 1 1 0 0 = 6
            car 10 1 1 0 0 = 7 | car 10 1 1 0 0 = 8 | car 10 1 1 0 0 = 9 | car 10 1 1 0 0 = 10 | car 10 1 1 0 0 = 11 | site 5 1 = 0 | plug 0 1 0 = 0
            advice 12 5 0 = 12 | advice 12 5 1 = 12 | advice 12 5 21 = 0 | advice 12 5 41 = 0 | advice 12 5 22 = -1 | advice 12 5 42 = -1 | advice 13 5 0 = -1
            advice 11 5 21 = -1 | advice 11 5 41 = -1 | advice 11 5 20 = 0 | advice 11 5 40 = 0 | advice 11 5 0 = 11
            """);
        s.run("23 a is 0 to 999", """
            car 10 1 1 0 9 = 0 | site 0 1 = 0 | site 999 1 = 1 | plug 0 1 0 = 0 | plug 1 1 0 = 1 | advice 1 -1 10 = -1 | advice 1 0 10 = 0 | advice 1 999 10 = 1
            advice 1 1000 10 = -1 | advice 1 2147483647 10 = -1 | advice 1 -2147483648 10 = -1
            """);
        s.run("23 another what", """
            car 10 1 1 0 9 = 0 | advice 1 0 -1 = -1 | advice 1 0 0 = 0 | advice 1 0 1 = 0 | advice 1 0 2 = -1 | advice 1 0 9 = -1 | advice 1 0 29 = -1
            advice 1 0 2147483647 = -1 | advice 1 0 -2147483648 = -1
            """);
        s.run("23 no such CAR of these", """
            car 10 1 1 0 9 = 0 | car 10 1 1 0 9 = 1 | advice 1 0 10 = -3 | advice 1 0 11 = -1 | advice 1 0 30 = -3 | advice 1 0 31 = -1 | advice 2 0 11 = -3
            advice 2 0 31 = -3 | advice 2 0 12 = -1 | advice 2 0 32 = -1 | advice 2 0 21 = -1 | advice 2 0 41 = -1
            """);
    }

    private static void reach(Script s) {
        s.run("23 NONE: it can't REACH any: no SITES, no PLUGS", """
            car 10 1 1 0 9 = 0 | advice 1 0 10 = -3 | advice 1 0 30 = -3 | advice 1 0 0 = 0 | advice 1 0 1 = 0 | site 5 1 = 0 | advice 1 0 10 = -3 | advice 1 0 30 = -3
            advice 1 0 0 = 0 | advice 1 0 1 = 0 | plug 0 1 0 = 0 | advice 1 0 10 = 0 | advice 1 0 30 = 0 | advice 1 0 0 = 1 | advice 1 0 1 = 1
            """);
        s.run("5 a SITE at a KM from a on", "car 10 1 1 0 9 = 0 | site 5 1 = 0 | plug 0 1 0 = 0 | advice 1 4 10 = 0 | advice 1 5 10 = 0 | advice 1 6 10 = -3 | advice 1 6 30 = -3");
        s.run("5 that it can drive to: with CHARGE 0 only where it is", """
            car 10 1 1 0 0 = 0 | site 5 1 = 0 | plug 0 1 0 = 0 | advice 1 5 10 = 0 | advice 1 4 10 = -3 | advice 1 5 30 = 0 | advice 1 4 30 = -3
            """);
        s.run("5 that it can drive to: to the last unit of CHARGE", """
            car 10 10 1 0 2 = 0 | site 50 1 = 0 | plug 0 1 0 = 0 | advice 1 30 10 = 0 | advice 1 29 10 = -3 | set 0 50 = 0 | advice 1 37 10 = 0 | advice 1 36 10 = -3
            """);
        s.run("5 all of them by their CHARGE, wherever they are", """
            car 10 10 1 0 2 = 0 | site 50 9 = 0 | plug 0 1 0 = 0 | advice 1 29 10 = -3 | come 0 0 10 0 = 0 | ticks 1 = 1 | of 0 1 = 200 | advice 1 20 10 = 0 | advice 1 19 10 = -3
            """);
        s.run("5 where a PLUG SERVES it: of its CABLE", """
            car 10 1 1 2 9 = 0 | site 5 1 = 0 | plug 0 1 0 = 0 | plug 0 1 1 = 1 | advice 1 0 10 = -3 | plug 0 1 2 = 2 | advice 1 0 10 = 0
            """);
        s.run("5 where a PLUG SERVES it: not BROKEN beyond doubt", """
            car 10 1 1 0 9 = 0 | car 10 1 1 0 9 = 1 | site 5 1 = 0 | plug 0 1 0 = 0 | fail 0 true = 1 | says 0 false = 1 | advice 1 0 10 = 0 | tried 0 0 true = 1
            advice 1 0 10 = 0 | tried 0 1 true = 2 | advice 1 0 10 = -3 | plug 0 1 0 = 1 | advice 1 0 10 = 0
            """);
    }

    private static void sameAndParted(Script s) {
        String twoSites = "site 5 1 = 0 | site 6 1 = 1 | plug 0 1 0 = 0 | plug 1 1 0 = 1 | car 10 1 1 0 9 = 0 | car 10 1 1 0 9 = 1 | car 10 1 1 0 9 = 2\n";
        s.run("5 SAME: the least WAIT (of several the first)", twoSites + """
            advice 3 0 10 = 0 | advice 3 0 12 = 0 | advice 3 0 0 = 3 | set 40 1 = 0 | advice 3 0 10 = 1 | advice 3 0 12 = 1 | advice 3 0 0 = 3 | set 41 1 = 0
            advice 3 0 10 = 0 | set 40 99 = 1 | set 41 98 = 1 | advice 3 0 10 = 1 | set 41 99 = 98 | advice 3 0 10 = 0
            """);
        s.run("5 PARTED: the least TOLD (of several the first); TOLD is WAIT at first and grows by 20 of one PLUG", twoSites + """
            advice 3 0 30 = 0 | advice 3 0 31 = 1 | advice 3 0 32 = 0 | advice 3 0 1 = 2 | set 41 19 = 0 | advice 3 0 31 = 1 | advice 3 0 32 = 0 | set 41 20 = 19
            advice 3 0 31 = 0 | advice 3 0 32 = 1 | set 41 21 = 20 | advice 3 0 31 = 0 | advice 3 0 32 = 1 | set 41 40 = 21 | advice 3 0 32 = 0 | advice 3 0 1 = 3
            """);
        s.run("5 TOLD grows above 99", twoSites + "set 40 99 = 0 | set 41 99 = 0 | advice 3 0 30 = 0 | advice 3 0 31 = 1 | advice 3 0 32 = 0 | siteOf 0 7 = 99");
        s.run("5 20 by its PLUGS (cut up): 3 PLUGS, 7", """
            site 5 1 = 0 | site 6 1 = 1 | plug 0 1 0 = 0 | plug 0 1 1 = 1 | plug 0 1 2 = 2 | plug 1 1 0 = 3 | car 10 1 1 0 9 = 0 | car 10 1 1 0 9 = 1
            set 41 6 = 0 | advice 2 0 31 = 1 | set 41 7 = 6 | advice 2 0 31 = 0
            """);
        s.run("5 20 by its PLUGS (cut up): 2 PLUGS, 10, one of them BROKEN beyond doubt", """
            site 5 1 = 0 | site 6 1 = 1 | plug 0 1 0 = 0 | plug 0 1 0 = 1 | plug 1 1 0 = 2 | car 10 1 1 0 9 = 0 | car 10 1 1 0 9 = 1 | tried 1 0 true = 1
            tried 1 1 true = 2 | set 41 9 = 0 | advice 2 0 31 = 1 | set 41 10 = 9 | advice 2 0 31 = 0
            """);
        s.run("5 20 by its PLUGS (cut up): 15 PLUGS, 2", """
            site 5 1 = 0 | site 6 1 = 1 | plug 0 1 0 = 0 | plug 0 1 0 = 1 | plug 0 1 0 = 2 | plug 0 1 0 = 3 | plug 0 1 0 = 4 | plug 0 1 0 = 5 | plug 0 1 0 = 6
            plug 0 1 0 = 7 | plug 0 1 0 = 8 | plug 0 1 0 = 9 | plug 0 1 0 = 10 | plug 0 1 0 = 11 | plug 0 1 0 = 12 | plug 0 1 0 = 13 | plug 0 1 0 = 14
            plug 1 1 0 = 15 | car 10 1 1 0 9 = 0 | car 10 1 1 0 9 = 1 | set 41 1 = 0 | advice 2 0 31 = 1 | set 41 2 = 1 | advice 2 0 31 = 0
            """);
        s.run("5 PARTED: by numbers, and one that can't REACH any does not count", """
            site 5 1 = 0 | site 6 1 = 1 | plug 0 1 0 = 0 | plug 1 1 0 = 1 | car 10 1 1 0 9 = 0 | car 10 1 1 1 9 = 1 | car 10 1 1 0 9 = 2 | car 10 1 1 0 0 = 3
            advice 4 0 30 = 0 | advice 4 0 31 = -3 | advice 4 0 32 = 1 | advice 4 0 33 = -3 | advice 4 0 1 = 1 | advice 4 0 0 = 2 | advice 4 0 11 = -3
            """);
        s.run("5 of both: how many go to the SITE to which most go, up to the last SITE", """
            site 1 1 = 0 | site 2 1 = 1 | site 3 1 = 2 | site 4 1 = 3 | site 5 1 = 4 | site 6 1 = 5 | plug 5 1 0 = 0 | plug 0 1 1 = 1
            car 10 1 1 0 9 = 0 | car 10 1 1 0 9 = 1 | car 10 1 1 1 9 = 2 | advice 3 0 0 = 2 | advice 3 0 1 = 2 | advice 3 0 10 = 5 | advice 3 0 31 = 5 | advice 3 0 32 = 0
            advice 1 0 0 = 1 | advice 3 2 12 = -3
            """);
        s.run("23 asking changes no WAIT", twoSites + "advice 3 0 1 = 2 | advice 3 0 31 = 1 | siteOf 0 7 = 0 | siteOf 1 7 = 0 | advice 3 0 31 = 1 | advice 3 0 12 = 0 | advice 3 0 1 = 2");
    }
}
