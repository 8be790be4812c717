/** Promise 23: advice. */
public final class AdviceTest {
    public static void main(String[] args) {
        Script s = new Script();
        s.run("23 advice, wrong numbers", """
            advice 1 0 0 = -1 | advice 0 0 0 = -1 | car 100 10 9 0 100 = 0 | car 100 10 9 0 100 = 1
            advice 0 0 0 = -1 | advice 3 0 0 = -1 | advice -1 0 0 = -1 | advice 1 -1 0 = -1 | advice 1 1000 0 = -1
            advice 1 0 2 = -1 | advice 1 0 -1 = -1 | advice 1 0 9 = -1 | advice 1 0 11 = -1 | advice 1 0 31 = -1
            advice 2 0 12 = -1 | advice 2 0 29 = -1 | advice 2 0 32 = -1 | advice 2 999 0 = 0 | advice 2 0 1 = 0
            advice 2 0 11 = -3 | advice 2 0 31 = -3 | advice 1 0 10 = -3 | advice 2 0 2147483647 = -1 | advice 2 0 -2147483648 = -1
            """);
        s.run("23 advice, reach", """
            site 10 1 = 0 | site 20 1 = 1 | site 30 1 = 2 | plug 1 5 0 = 0 | plug 2 5 1 = 1
            car 100 10 9 0 2 = 0 | car 100 10 9 1 2 = 1 | car 100 10 9 2 100 = 2 | car 100 10 9 0 0 = 3
            advice 4 0 10 = 1 | advice 4 0 11 = -3 | advice 4 0 12 = -3 | advice 4 0 13 = -3 | advice 4 10 11 = 2
            advice 4 20 10 = 1 | advice 4 20 13 = 1 | advice 4 21 10 = -3 | advice 4 21 11 = 2 | advice 4 30 11 = 2 | advice 4 31 11 = -3
            advice 4 20 0 = 2 | advice 4 20 1 = 2 | advice 1 20 0 = 1
            tried 0 0 true = 1 | tried 0 1 true = 2 | advice 4 20 10 = -3 | advice 4 20 0 = 1 | says 1 false = 1 | advice 4 20 0 = 1
            set 0 50 = 0 | advice 4 10 11 = -3 | advice 4 17 11 = 2 | advice 4 16 11 = -3
            """);
        s.run("23 advice, drives the whole way at once", """
            site 1 1 = 0 | site 2 1 = 1 | site 3 1 = 2 | plug 2 1 0 = 0 | car 10 10 1 0 1 = 0 | advice 1 0 10 = 2 | trip 0 0 3 0 = -3
            """);
        s.run("23 advice, same and parted", """
            site 10 1 = 0 | site 20 1 = 1 | site 30 1 = 2
            plug 0 5 0 = 0 | plug 1 5 0 = 1 | plug 1 5 1 = 2 | plug 1 5 2 = 3 | plug 2 5 0 = 4 | plug 2 5 1 = 5
            car 100 1 9 0 50 = 0 | car 100 1 9 0 50 = 1 | car 100 1 9 0 50 = 2 | car 100 1 9 0 50 = 3 | car 100 1 9 0 50 = 4
            car 100 1 9 0 50 = 5 | car 100 1 9 1 50 = 6
            advice 7 0 0 = 6 | advice 7 0 10 = 0 | advice 7 0 15 = 0 | advice 7 0 16 = 1
            advice 7 0 30 = 0 | advice 7 0 31 = 1 | advice 7 0 32 = 2 | advice 7 0 33 = 1 | advice 7 0 34 = 2 | advice 7 0 35 = 1
            advice 7 0 36 = 2 | advice 7 0 1 = 3 | advice 6 0 1 = 3 | advice 5 0 1 = 2 | advice 5 0 35 = -1
            set 40 14 = 0 | advice 7 0 10 = 1 | advice 7 0 0 = 7 | advice 7 0 30 = 1 | advice 7 0 31 = 2 | advice 7 0 32 = 1
            advice 7 0 33 = 2 | advice 7 0 34 = 0 | advice 7 0 35 = 1 | siteOf 1 7 = 0 | siteOf 0 7 = 14
            set 41 14 = 0 | set 42 14 = 0 | advice 7 0 10 = 0 | advice 7 0 31 = 1 | advice 7 0 32 = 2 | advice 7 15 10 = 1
            """);
        s.run("23 advice, broken plugs count as the site's plugs", """
            site 0 1 = 0 | site 1 1 = 1 | plug 0 5 0 = 0 | plug 0 5 0 = 1 | plug 1 5 0 = 2 | car 100 1 9 0 50 = 0 | car 100 1 9 0 50 = 1
            set 41 10 = 0 | tried 1 0 true = 1 | tried 1 1 true = 2 | advice 2 0 30 = 0 | advice 2 0 31 = 0 | set 41 9 = 10
            advice 2 0 31 = 1 | come 0 0 60 0 = 0 | advice 2 0 30 = 0
            """);
        s.end("AdviceTest");
    }
}
