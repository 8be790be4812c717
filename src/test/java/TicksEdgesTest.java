/** The edges that chapter 3 (the TICK) and promises 13 to 18 name: each run is for one sentence of the document, told by its name. */
public final class TicksEdgesTest {
    private static final String TO_1900 = "ticks 100 = 0 | ".repeat(19);

    public static void main(String[] args) {
        Script s = new Script();
        comes(s);
        leaves(s);
        goes(s);
        fails(s);
        ticks(s);
        hours(s);
        takes(s);
        failures(s);
        evenShares(s);
        firstShares(s);
        wants(s);
        caps(s);
        stays(s);
        idlePay(s);
        plugOfs(s);
        s.end("TicksEdgesTest");
    }

    private static void comes(Script s) {
        s.run("13 there is no such CAR", """
            site 0 1 = 0 | come 0 0 0 0 = -1 | car 10 1 1 0 0 = 0 | come 1 0 0 0 = -1 | come -1 0 0 0 = -1 | come 2147483647 0 0 0 = -1
            come -2147483648 0 0 0 = -1 | come 0 0 0 0 = 0
            """);
        s.run("13 there is no such SITE", """
            car 10 1 1 0 0 = 0 | come 0 0 0 0 = -1 | site 0 1 = 0 | come 0 1 0 0 = -1 | come 0 -1 0 0 = -1 | come 0 2147483647 0 0 = -1
            come 0 -2147483648 0 0 = -1 | of 0 1 = 0 | come 0 0 0 0 = 0
            """);
        s.run("13 want is its CHARGE at least", "site 0 1 = 0 | car 20 1 1 0 5 = 0 | come 0 0 4 0 = -1 | of 0 1 = 0 | of 0 2 = 0 | come 0 0 5 0 = 0 | of 0 2 = 5");
        s.run("13 want is BATTERY at most", "site 0 1 = 0 | car 20 1 1 0 5 = 0 | come 0 0 21 0 = -1 | of 0 1 = 0 | come 0 0 20 0 = 0 | of 0 2 = 20");
        s.run("13 want of a full and of an empty CAR", """
            site 0 1 = 0 | car 20 1 1 0 20 = 0 | car 20 1 1 0 0 = 1 | come 0 0 19 0 = -1 | come 0 0 21 0 = -1 | come 0 0 20 0 = 0 | come 1 0 -1 0 = -1
            come 1 0 0 0 = 1
            """);
        s.run("13 stay is 0 to 50", """
            site 0 1 = 0 | car 20 1 1 0 5 = 0 | car 20 1 1 0 5 = 1 | come 0 0 9 -1 = -1 | come 0 0 9 51 = -1 | come 0 0 9 2147483647 = -1
            come 0 0 9 -2147483648 = -1 | many 4 = 0 | come 0 0 9 0 = 0 | come 1 0 9 50 = 1
            """);
        s.run("13 STATE: it is not away, but in a QUEUE", """
            site 0 1 = 0 | site 1 1 = 1 | car 20 1 1 0 5 = 0 | come 0 0 9 0 = 0 | come 0 0 9 0 = -4 | come 0 1 9 0 = -4 | come 0 0 10 3 = -4
            of 0 2 = 9 | of 0 1 = 100 | siteOf 0 6 = 1 | siteOf 1 6 = 0
            """);
        s.run("13 STATE: it is not away, but at a PLUG", """
            site 0 1 = 0 | plug 0 1 0 = 0 | car 20 1 1 0 5 = 0 | come 0 0 9 0 = 0 | ticks 1 = 1 | come 0 0 9 0 = -4 | of 0 1 = 200 | many 4 = 0
            """);
        s.run("13 NUMBER ahead of STATE", """
            site 0 1 = 0 | plug 0 1 0 = 0 | car 20 1 1 0 5 = 0 | come 0 0 9 0 = 0 | come 0 1 9 0 = -1 | come 0 0 4 0 = -1 | come 0 0 21 0 = -1
            come 0 0 9 51 = -1 | come 0 0 9 -1 = -1 | ticks 1 = 1 | come 0 0 5 0 = -1 | come 0 0 6 0 = -4
            """);
        s.run("13 its place in the QUEUE (from 0 on): it is last, with all CARS", """
            site 0 1 = 0 | site 1 1 = 1 | car 10 1 1 0 0 = 0 | car 10 1 1 0 0 = 1 | car 10 1 1 0 0 = 2 | car 10 1 1 0 0 = 3 | car 10 1 1 0 0 = 4 | car 10 1 1 0 0 = 5
            car 10 1 1 0 0 = 6 | car 10 1 1 0 0 = 7 | car 10 1 1 0 0 = 8 | car 10 1 1 0 0 = 9 | car 10 1 1 0 0 = 10 | car 10 1 1 0 0 = 11
            come 11 1 5 0 = 0 | come 10 1 5 0 = 1 | come 9 1 5 0 = 2 | come 8 1 5 0 = 3 | come 7 1 5 0 = 4 | come 6 1 5 0 = 5 | come 5 1 5 0 = 6
            come 4 1 5 0 = 7 | come 3 1 5 0 = 8 | come 2 1 5 0 = 9 | come 1 1 5 0 = 10 | come 0 1 5 0 = 11 | of 0 7 = 11 | of 11 7 = 0
            leave 11 = 101 | of 0 7 = 10 | of 10 7 = 0 | come 11 1 5 0 = 11 | leave 5 = 101 | come 5 0 5 0 = 0 | of 11 7 = 10 | many 4 = 12
            """);
    }

    private static void leaves(Script s) {
        s.run("14 there is none such", "leave 0 = -1 | car 10 1 1 0 0 = 0 | leave 1 = -1 | leave -1 = -1 | leave 2147483647 = -1 | leave -2147483648 = -1 | leave 0 = -4");
        s.run("14 STATE: it is away", "site 0 1 = 0 | car 10 1 1 0 0 = 0 | leave 0 = -4 | come 0 0 5 0 = 0 | leave 0 = 100 | leave 0 = -4 | come 0 0 5 0 = 0");
        s.run("14 from the first, a middle and the last place in the QUEUE", """
            site 0 1 = 0 | car 10 1 1 0 0 = 0 | car 10 1 1 0 0 = 1 | car 10 1 1 0 0 = 2 | car 10 1 1 0 0 = 3 | car 10 1 1 0 0 = 4
            come 0 0 5 0 = 0 | come 1 0 5 0 = 1 | come 2 0 5 0 = 2 | come 3 0 5 0 = 3 | come 4 0 5 0 = 4 | leave 2 = 100
            of 1 7 = 1 | of 3 7 = 2 | of 4 7 = 3 | leave 0 = 100 | of 1 7 = 0 | of 3 7 = 1 | of 4 7 = 2 | leave 4 = 100 | of 1 7 = 0 | of 3 7 = 1
            siteOf 0 6 = 2 | leave 3 = 100 | leave 1 = 100 | siteOf 0 6 = 0 | many 4 = 0
            """);
        s.run("14 from its PLUG, which is free then", """
            site 0 9 = 0 | site 1 9 = 1 | plug 1 2 0 = 0 | car 10 1 2 0 0 = 0 | car 10 1 2 0 0 = 1 | come 0 1 9 0 = 0 | come 1 1 9 0 = 1 | ticks 1 = 2
            leave 0 = 200 | plugOf 0 3 = -3 | of 0 1 = 0 | of 0 0 = 2 | many 5 = 0 | many 4 = 1 | ticks 1 = 2 | plugOf 0 3 = 1
            """);
    }

    private static void goes(Script s) {
        s.run("15 there is no such CAR", "go 0 1 = -1 | car 10 1 1 0 9 = 0 | go 1 1 = -1 | go -1 1 = -1 | go 0 1 = 8");
        s.run("15 n is 1 at least", "car 10 1 1 0 9 = 0 | go 0 0 = -1 | go 0 -1 = -1 | go 0 -2147483648 = -1 | of 0 0 = 9 | go 0 1 = 8");
        s.run("15 n is 999 at most", "car 10 1 1 0 10 = 0 | go 0 1000 = -1 | go 0 2147483647 = -1 | of 0 0 = 10 | go 0 999 = 0");
        s.run("15 STATE: it isn't away", """
            site 0 9 = 0 | plug 0 1 0 = 0 | car 10 1 1 0 8 = 0 | come 0 0 10 9 = 0 | go 0 1 = -4 | ticks 1 = 1 | of 0 1 = 200 | go 0 1 = -4 | of 0 0 = 9
            leave 0 = 200 | go 0 1 = 8
            """);
        s.run("15 NONE: it has not so much CHARGE", """
            car 10 10 1 0 3 = 0 | go 0 31 = -3 | go 0 999 = -3 | of 0 0 = 3 | go 0 30 = 0 | of 0 0 = 0 | go 0 1 = -3 | of 0 0 = 0
            """);
        s.run("15 NONE in the COLD", "car 10 10 1 0 3 = 0 | set 0 50 = 0 | go 0 21 = -3 | go 0 20 = 0");
        s.run("15 NUMBER ahead of STATE ahead of NONE", """
            site 0 9 = 0 | car 10 10 1 0 0 = 0 | come 0 0 10 0 = 0 | go 0 0 = -1 | go 0 1000 = -1 | go 0 999 = -4 | leave 0 = 100 | go 0 0 = -1 | go 0 1 = -3
            """);
        s.run("15 a way by itself is cut up each time, and takes no TICKS", "car 10 1 1 0 10 = 0 | go 0 1 = 9 | go 0 1 = 8 | go 0 100 = 7 | go 0 101 = 5 | many 0 = 0");
    }

    private static void fails(Script s) {
        s.run("16 there is none such", """
            fail 0 true = -1 | site 0 1 = 0 | plug 0 1 0 = 0 | fail 1 true = -1 | fail -1 true = -1 | fail 1 false = -1 | fail 2147483647 true = -1
            fail -2147483648 true = -1 | fail 0 false = 0
            """);
        s.run("16 1 if that is new, else 0", """
            site 0 1 = 0 | plug 0 1 0 = 0 | plug 0 1 0 = 1 | fail 0 false = 0 | fail 0 true = 1 | fail 0 true = 0 | fail 1 false = 0 | fail 0 false = 1
            fail 0 false = 0 | fail 1 true = 1
            """);
        s.run("3 a PLUG may really FAIL (nobody is told)", """
            site 0 1 = 0 | plug 0 1 0 = 0 | car 10 1 1 0 0 = 0 | fail 0 true = 1 | plugOf 0 4 = 0 | plugOf 0 5 = 1 | plugOf 0 6 = 0 | lies = 0 | many 6 = 0
            advice 1 0 10 = 0
            """);
    }

    private static void ticks(Script s) {
        s.run("17 n is 1 at least", "ticks 0 = -1 | ticks -1 = -1 | ticks -2147483648 = -1 | many 0 = 0 | ticks 1 = 0 | many 0 = 1");
        s.run("17 n is 100 at most", "ticks 101 = -1 | ticks 2147483647 = -1 | many 0 = 0 | ticks 100 = 0 | many 0 = 100");
        s.run("17 STATE: NOW would be above 2000", TO_1900 + """
            many 0 = 1900 | ticks 99 = 0 | ticks 2 = -4 | ticks 100 = -4 | many 0 = 1999 | ticks 1 = 0 | many 0 = 2000 | ticks 1 = -4 | ticks 100 = -4
            ticks 0 = -1 | ticks 101 = -1 | many 0 = 2000
            """);
        s.run("17 NOW is 2000 by a hundred at once", TO_1900 + "ticks 100 = 0 | many 0 = 2000 | ticks 1 = -4");
        s.run("17 STATE: no TICK goes of those that might", "site 0 9 = 0 | plug 0 1 0 = 0 | car 50 1 1 0 0 = 0 | " + TO_1900 + """
            ticks 98 = 0 | come 0 0 9 0 = 0 | ticks 3 = -4 | of 0 0 = 0 | of 0 1 = 100 | of 0 4 = 0 | many 6 = 0 | ticks 2 = 2 | of 0 0 = 2 | many 0 = 2000
            tryOf 0 2 = 1998 | tried 0 0 true = 2 | tryOf 1 2 = 2000
            """);
        s.run("17 how many units were given: in these TICKS, at all SITES", """
            site 0 5 = 0 | site 1 3 = 1 | plug 0 9 0 = 0 | plug 1 9 0 = 1 | car 50 1 9 0 0 = 0 | car 50 1 9 0 0 = 1 | ticks 3 = 0 | come 0 0 50 0 = 0
            come 1 1 50 0 = 0 | ticks 1 = 8 | ticks 2 = 16 | many 10 = 24 | ticks 100 = 76 | ticks 100 = 0 | many 10 = 100
            """);
        s.run("3 a CAR WAITS each TICK at whose end it is in the QUEUE", """
            site 0 9 = 0 | car 10 1 1 0 0 = 0 | come 0 0 10 0 = 0 | of 0 4 = 0 | ticks 1 = 0 | of 0 4 = 1 | ticks 100 = 0 | of 0 4 = 101 | plug 0 1 0 = 0
            ticks 1 = 1 | of 0 4 = 101 | fail 0 true = 1 | ticks 1 = 0 | of 0 4 = 102 | leave 0 = 100 | ticks 5 = 0 | of 0 4 = 102
            """);
    }

    private static void hours(Script s) {
        s.run("1 the HOUR of a TICK: it by 12, modulo 24", """
            site 0 9 = 0 | plug 0 1 0 = 0 | car 200 1 1 0 0 = 0 | set 10 1 = 10 | set 11 2 = 10 | set 33 5 = 10 | come 0 0 200 0 = 0
            ticks 11 = 11 | of 0 6 = 11 | ticks 1 = 1 | of 0 6 = 12 | ticks 1 = 1 | of 0 6 = 14 | ticks 11 = 11 | of 0 6 = 36 | ticks 1 = 1 | of 0 6 = 46
            leave 0 = 200 | ticks 100 = 0 | ticks 100 = 0 | ticks 50 = 0 | many 0 = 275 | come 0 0 200 0 = 0 | ticks 1 = 1 | of 0 6 = 56
            ticks 1 = 1 | of 0 6 = 61 | ticks 11 = 11 | of 0 6 = 116 | many 0 = 288 | ticks 1 = 1 | of 0 6 = 117 | ticks 12 = 12 | of 0 6 = 130
            """);
        s.run("1 the HOUR of the last TICK", "site 0 9 = 0 | plug 0 1 0 = 0 | car 200 1 1 0 0 = 0 | set 32 3 = 10 | " + TO_1900 + """
            ticks 99 = 0 | come 0 0 200 0 = 0 | ticks 1 = 1 | of 0 6 = 3
            """);
        s.run("3 PRICE of its HOUR for each unit: 0 and 99", """
            site 0 300 = 0 | plug 0 150 0 = 0 | car 200 1 150 0 0 = 0 | set 10 0 = 10 | come 0 0 150 0 = 0 | ticks 1 = 150 | of 0 6 = 0 | of 0 3 = 150
            set 10 99 = 0 | come 0 0 200 0 = 0 | ticks 1 = 50 | of 0 6 = 4950 | many 11 = 4950
            """);
    }

    private static void takes(Script s) {
        s.run("3 (1) the first CAR of the QUEUE with its CABLE", """
            site 0 9 = 0 | plug 0 1 1 = 0 | car 10 1 1 0 0 = 0 | car 10 1 1 2 0 = 1 | car 10 1 1 1 0 = 2 | car 10 1 1 1 0 = 3
            come 0 0 9 0 = 0 | come 1 0 9 0 = 1 | come 3 0 9 0 = 2 | come 2 0 9 0 = 3 | ticks 1 = 1 | plugOf 0 3 = 3 | of 0 7 = 0 | of 1 7 = 1 | of 2 7 = 2
            """);
        s.run("3 (1) no CAR of its CABLE, and an empty QUEUE", """
            site 0 9 = 0 | plug 0 1 1 = 0 | car 10 1 1 0 0 = 0 | ticks 1 = 0 | plugOf 0 3 = -3 | come 0 0 9 0 = 0 | ticks 1 = 0 | plugOf 0 3 = -3 | of 0 1 = 100
            """);
        s.run("3 (1) each free PLUG, by numbers", """
            site 0 9 = 0 | plug 0 1 0 = 0 | plug 0 1 0 = 1 | plug 0 1 0 = 2 | car 10 1 1 0 0 = 0 | car 10 1 1 0 0 = 1 | car 10 1 1 0 0 = 2
            come 2 0 9 0 = 0 | come 0 0 9 0 = 1 | ticks 1 = 2 | plugOf 0 3 = 2 | plugOf 1 3 = 0 | plugOf 2 3 = -3 | leave 2 = 200 | come 1 0 9 0 = 0
            ticks 1 = 2 | plugOf 0 3 = 1 | plugOf 1 3 = 0 | plugOf 2 3 = -3
            """);
        s.run("3 (1) a PLUG that is not free takes nobody; one that becomes free in a TICK does so in the next", """
            site 0 9 = 0 | plug 0 1 0 = 0 | car 10 1 1 0 0 = 0 | car 10 1 1 0 0 = 1 | come 0 0 1 0 = 0 | come 1 0 1 0 = 1 | ticks 1 = 1 | of 0 1 = 0
            plugOf 0 3 = -3 | of 1 1 = 100 | of 1 4 = 1 | ticks 1 = 1 | of 1 1 = 0 | of 1 4 = 1 | of 1 3 = 1
            """);
        s.run("3 (1) that has not tried it since it came: it goes to the next PLUG, then to none", """
            site 0 9 = 0 | plug 0 1 0 = 0 | plug 0 1 0 = 1 | car 10 1 1 0 0 = 0 | fail 0 true = 1 | fail 1 true = 1 | come 0 0 9 0 = 0 | ticks 1 = 0
            many 6 = 1 | tryOf 0 0 = 0 | ticks 1 = 0 | many 6 = 2 | tryOf 1 0 = 1 | fail 0 false = 1 | fail 1 false = 1 | ticks 5 = 0 | many 6 = 2 | of 0 1 = 100
            leave 0 = 100 | come 0 0 9 0 = 0 | ticks 1 = 1 | of 0 1 = 200 | tryOf 2 3 = 0
            """);
        s.run("3 (1) one that has tried it is passed over for the next in the QUEUE", """
            site 0 9 = 0 | plug 0 1 0 = 0 | car 10 1 1 0 0 = 0 | car 10 1 1 0 0 = 1 | fail 0 true = 1 | come 0 0 9 0 = 0 | come 1 0 9 0 = 1 | ticks 1 = 0
            of 0 7 = 0 | of 1 7 = 1 | fail 0 false = 1 | ticks 1 = 1 | plugOf 0 3 = 1 | of 0 7 = 0
            """);
        s.run("3 (1) one that charged at it has tried it, when it comes to FAIL", """
            site 0 9 = 0 | plug 0 1 0 = 0 | car 10 1 1 0 0 = 0 | come 0 0 9 0 = 0 | ticks 1 = 1 | fail 0 true = 1 | ticks 1 = 0 | fail 0 false = 1
            ticks 3 = 0 | of 0 1 = 100 | many 6 = 2
            """);
        s.run("3 a PLUG with the last number keeps in mind who tried it", """
            site 0 9 = 0 | plug 0 1 1 = 0 | plug 0 1 1 = 1 | plug 0 1 1 = 2 | plug 0 1 1 = 3 | plug 0 1 1 = 4 | plug 0 1 1 = 5 | plug 0 1 1 = 6
            plug 0 1 1 = 7 | plug 0 1 1 = 8 | plug 0 1 1 = 9 | plug 0 1 1 = 10 | plug 0 1 1 = 11 | plug 0 1 1 = 12 | plug 0 1 1 = 13
            plug 0 1 1 = 14 | plug 0 1 0 = 15 | car 10 1 1 0 0 = 0 | fail 15 true = 1 | come 0 0 9 0 = 0 | ticks 1 = 0 | fail 15 false = 1 | ticks 1 = 0
            many 6 = 1 | leave 0 = 100 | come 0 0 9 0 = 0 | ticks 1 = 1 | of 0 1 = 215
            """);
        s.run("3 a CAR of another SITE is not taken", """
            site 0 9 = 0 | site 1 9 = 1 | plug 1 1 0 = 0 | car 10 1 1 0 0 = 0 | come 0 0 9 0 = 0 | ticks 2 = 0 | of 0 1 = 100 | plugOf 0 3 = -3
            """);
    }

    private static void failures(Script s) {
        s.run("3 (2) CARS at PLUGS that FAIL get nothing and PAY nothing", """
            site 0 9 = 0 | plug 0 1 0 = 0 | car 10 1 1 0 0 = 0 | fail 0 true = 1 | come 0 0 9 0 = 0 | ticks 1 = 0 | of 0 0 = 0 | of 0 3 = 0 | of 0 6 = 0
            many 10 = 0 | many 11 = 0 | siteOf 0 8 = 0 | of 0 5 = 0 | of 0 4 = 1
            """);
        s.run("3 (2) one at its WANT is not IDLE at a PLUG that FAILS", """
            site 0 9 = 0 | plug 0 1 0 = 0 | car 10 1 1 0 5 = 0
            tape idle 9 after 0;
            read 0 = 1 | fail 0 true = 1 | come 0 0 5 0 = 0 | ticks 3 = 0 | of 0 1 = 100 | of 0 5 = 0 | of 0 6 = 0 | many 6 = 1
            """);
        s.run("3 (2) it is a TRY that failed", """
            site 0 9 = 0 | plug 0 1 0 = 0 | plug 0 1 0 = 1 | car 10 1 1 0 0 = 0 | ticks 7 = 0 | fail 0 true = 1 | come 0 0 9 0 = 0 | ticks 1 = 0
            many 6 = 1 | tryOf 0 0 = 0 | tryOf 0 1 = 0 | tryOf 0 2 = 7 | tryOf 0 3 = 1 | ticks 1 = 1 | many 6 = 2 | tryOf 1 0 = 1 | tryOf 1 2 = 8 | tryOf 1 3 = 0
            """);
        s.run("3 (2) back to the front of the QUEUE, the last one first of all in the end", """
            site 0 9 = 0 | plug 0 1 0 = 0 | plug 0 1 0 = 1 | plug 0 1 0 = 2 | car 10 1 1 0 0 = 0 | car 10 1 1 0 0 = 1 | car 10 1 1 0 0 = 2 | car 10 1 1 0 0 = 3
            fail 0 true = 1 | fail 1 true = 1 | fail 2 true = 1 | come 0 0 9 0 = 0 | come 1 0 9 0 = 1 | come 2 0 9 0 = 2 | come 3 0 9 0 = 3 | ticks 1 = 0
            of 2 7 = 0 | of 1 7 = 1 | of 0 7 = 2 | of 3 7 = 3 | many 6 = 3 | many 4 = 4 | many 5 = 0
            """);
        s.run("3 (2) back to the QUEUE of its own SITE, the last one", """
            site 0 9 = 0 | site 1 9 = 1 | site 2 9 = 2 | site 3 9 = 3 | site 4 9 = 4 | site 5 9 = 5 | plug 5 1 0 = 0 | car 10 1 1 0 0 = 0 | fail 0 true = 1
            come 0 5 9 0 = 0 | ticks 1 = 0 | of 0 1 = 105 | of 0 7 = 0 | siteOf 5 6 = 1 | siteOf 0 6 = 0 | leave 0 = 105 | siteOf 5 6 = 0
            """);
        s.run("3 (2) with all CARS in one QUEUE", """
            site 0 9 = 0 | plug 0 1 0 = 0 | plug 0 1 0 = 1 | car 10 1 1 0 0 = 0 | car 10 1 1 0 0 = 1 | car 10 1 1 0 0 = 2 | car 10 1 1 0 0 = 3 | car 10 1 1 0 0 = 4
            car 10 1 1 0 0 = 5 | car 10 1 1 0 0 = 6 | car 10 1 1 0 0 = 7 | car 10 1 1 0 0 = 8 | car 10 1 1 0 0 = 9 | car 10 1 1 0 0 = 10 | car 10 1 1 0 0 = 11
            come 0 0 9 0 = 0 | come 1 0 9 0 = 1 | come 2 0 9 0 = 2 | come 3 0 9 0 = 3 | come 4 0 9 0 = 4 | come 5 0 9 0 = 5 | come 6 0 9 0 = 6
            come 7 0 9 0 = 7 | come 8 0 9 0 = 8 | come 9 0 9 0 = 9 | come 10 0 9 0 = 10 | come 11 0 9 0 = 11 | fail 0 true = 1 | fail 1 true = 1
            ticks 1 = 0 | many 4 = 12 | of 1 7 = 0 | of 0 7 = 1 | of 2 7 = 2 | of 11 7 = 11 | ticks 1 = 0 | of 0 7 = 0 | of 1 7 = 1 | of 2 7 = 2 | of 11 7 = 11
            """);
        s.run("3 (3) one that is there for its first TICK: a TRY that went well, and one only", """
            site 0 9 = 0 | plug 0 1 0 = 0 | car 10 1 1 0 0 = 0 | car 10 1 1 0 5 = 1 | ticks 3 = 0 | come 0 0 3 0 = 0 | ticks 3 = 3 | many 6 = 1
            tryOf 0 0 = 0 | tryOf 0 1 = 0 | tryOf 0 2 = 3 | tryOf 0 3 = 0 | come 1 0 5 0 = 0 | ticks 1 = 0 | many 6 = 2 | tryOf 1 1 = 1 | tryOf 1 3 = 0
            """);
    }

    private static void evenShares(Script s) {
        s.run("3 even: POWER is enough to the unit", """
            site 0 10 = 0 | plug 0 5 0 = 0 | plug 0 5 0 = 1 | car 50 1 5 0 0 = 0 | car 50 1 5 0 0 = 1 | come 0 0 50 0 = 0 | come 1 0 50 0 = 1
            ticks 1 = 10 | of 0 0 = 5 | of 1 0 = 5
            """);
        s.run("3 even: POWER lacks one unit", """
            site 0 9 = 0 | plug 0 5 0 = 0 | plug 0 5 0 = 1 | car 50 1 5 0 0 = 0 | car 50 1 5 0 0 = 1 | come 0 0 50 0 = 0 | come 1 0 50 0 = 1
            ticks 1 = 9 | of 0 0 = 4 | of 1 0 = 5
            """);
        s.run("3 even: what is left of POWER by how many (it too) are still to be served (the rest away)", """
            site 0 1 = 0 | plug 0 5 0 = 0 | plug 0 5 0 = 1 | plug 0 5 0 = 2 | car 50 1 5 0 0 = 0 | car 50 1 5 0 0 = 1 | car 50 1 5 0 0 = 2
            come 0 0 50 0 = 0 | come 1 0 50 0 = 1 | come 2 0 50 0 = 2 | ticks 1 = 1 | of 0 0 = 0 | of 1 0 = 0 | of 2 0 = 1 | ticks 1 = 1 | of 2 0 = 2
            """);
        s.run("3 even: what a small one leaves goes to the later ones", """
            site 0 10 = 0 | plug 0 2 0 = 0 | plug 0 9 0 = 1 | plug 0 9 0 = 2 | car 50 1 9 0 0 = 0 | car 50 1 9 0 0 = 1 | car 50 1 9 0 0 = 2
            come 0 0 50 0 = 0 | come 1 0 50 0 = 1 | come 2 0 50 0 = 2 | ticks 1 = 10 | of 0 0 = 2 | of 1 0 = 4 | of 2 0 = 4
            """);
        s.run("3 even: what is left then goes, one by one, round by PLUGS' numbers", """
            site 0 11 = 0 | plug 0 9 0 = 0 | plug 0 9 0 = 1 | plug 0 1 0 = 2 | car 50 1 9 0 0 = 0 | car 50 1 9 0 0 = 1 | car 50 1 9 0 0 = 2
            come 0 0 50 0 = 0 | come 1 0 50 0 = 1 | come 2 0 50 0 = 2 | ticks 1 = 11 | of 0 0 = 5 | of 1 0 = 5 | of 2 0 = 1
            """);
        s.run("3 even: to those that asked for more", """
            site 0 11 = 0 | plug 0 4 0 = 0 | plug 0 9 0 = 1 | plug 0 1 0 = 2 | car 50 1 9 0 0 = 0 | car 50 1 9 0 0 = 1 | car 50 1 9 0 0 = 2
            come 0 0 50 0 = 0 | come 1 0 50 0 = 1 | come 2 0 50 0 = 2 | ticks 1 = 11 | of 0 0 = 4 | of 1 0 = 6 | of 2 0 = 1
            """);
        s.run("3 even: as long as there is some (the last round ends in the middle)", """
            site 0 10 = 0 | plug 0 9 0 = 0 | plug 0 9 0 = 1 | plug 0 1 0 = 2 | car 50 1 9 0 0 = 0 | car 50 1 9 0 0 = 1 | car 50 1 9 0 0 = 2
            come 0 0 50 0 = 0 | come 1 0 50 0 = 1 | come 2 0 50 0 = 2 | ticks 1 = 10 | of 0 0 = 5 | of 1 0 = 4 | of 2 0 = 1
            """);
        s.run("3 even: the greatest POWER, round and round", """
            site 0 300 = 0 | plug 0 150 0 = 0 | plug 0 150 0 = 1 | plug 0 1 0 = 2 | car 200 1 150 0 0 = 0 | car 200 1 150 0 0 = 1 | car 200 1 1 0 0 = 2
            come 0 0 200 0 = 0 | come 1 0 200 0 = 1 | come 2 0 200 0 = 2 | ticks 1 = 300 | of 0 0 = 150 | of 1 0 = 149 | of 2 0 = 1
            """);
        s.run("3 even: of those that ask: one at its WANT, and one whose PLUG FAILS, do not count", """
            site 0 6 = 0 | plug 0 5 0 = 0 | plug 0 5 0 = 1 | plug 0 5 0 = 2 | car 50 1 5 0 9 = 0 | car 50 1 5 0 0 = 1 | car 50 1 5 0 0 = 2
            fail 2 true = 1 | come 0 0 9 50 = 0 | come 1 0 50 0 = 1 | come 2 0 50 0 = 2 | ticks 1 = 5 | of 1 0 = 5 | of 0 0 = 9
            """);
        s.run("3 even: of those that ask: one at its WANT does not count for the parts of the others", """
            site 0 3 = 0 | plug 0 5 0 = 0 | plug 0 5 0 = 1 | plug 0 5 0 = 2 | car 50 1 5 0 9 = 0 | car 50 1 5 0 0 = 1 | car 50 1 5 0 0 = 2
            come 0 0 9 50 = 0 | come 1 0 50 0 = 1 | come 2 0 50 0 = 2 | ticks 1 = 3 | of 0 0 = 9 | of 1 0 = 1 | of 2 0 = 2
            """);
        s.run("3 even: one that asks for a single unit is served in its turn", """
            site 0 4 = 0 | plug 0 9 0 = 0 | plug 0 9 0 = 1 | plug 0 1 0 = 2 | car 50 1 9 0 0 = 0 | car 50 1 9 0 0 = 1 | car 50 1 9 0 0 = 2
            come 0 0 50 0 = 0 | come 1 0 50 0 = 1 | come 2 0 50 0 = 2 | ticks 1 = 4 | of 0 0 = 2 | of 1 0 = 1 | of 2 0 = 1
            """);
        s.run("3 even: a car that gets nothing is still at its PLUG", """
            site 0 1 = 0 | plug 0 5 0 = 0 | plug 0 5 0 = 1 | car 50 1 5 0 0 = 0 | car 50 1 5 0 0 = 1 | come 0 0 50 0 = 0 | come 1 0 50 0 = 1
            ticks 3 = 3 | of 0 0 = 0 | of 0 1 = 200 | of 1 0 = 3 | of 0 5 = 0 | of 0 6 = 0
            """);
    }

    private static void firstShares(Script s) {
        String three = """
            plug 0 5 0 = 0 | plug 0 5 0 = 1 | plug 0 5 0 = 2 | car 50 1 5 0 0 = 0 | car 50 1 5 0 0 = 1 | car 50 1 5 0 0 = 2 | car 50 1 5 0 0 = 3
            tape share first;
            read 0 = 1
            """;
        s.run("3 first: of one TICK by PLUGS' numbers, as far as POWER goes", "site 0 7 = 0\n" + three + """
            come 2 0 50 0 = 0 | come 1 0 50 0 = 1 | come 0 0 50 0 = 2 | ticks 1 = 7 | of 2 0 = 5 | of 1 0 = 2 | of 0 0 = 0 | of 0 1 = 202
            """);
        s.run("3 first: POWER goes to the last unit", "site 0 10 = 0\n" + three + """
            come 0 0 50 0 = 0 | come 1 0 50 0 = 1 | come 2 0 50 0 = 2 | ticks 1 = 10 | of 0 0 = 5 | of 1 0 = 5 | of 2 0 = 0
            """);
        s.run("3 first: the last unit of POWER goes to the next", "site 0 6 = 0\n" + three + """
            come 0 0 50 0 = 0 | come 1 0 50 0 = 1 | come 2 0 50 0 = 2 | ticks 1 = 6 | of 0 0 = 5 | of 1 0 = 1 | of 2 0 = 0
            """);
        s.run("3 first: one that asks for a single unit", "site 0 6 = 0\n" + three + """
            come 0 0 1 0 = 0 | come 1 0 50 0 = 1 | come 2 0 50 0 = 2 | ticks 1 = 6 | of 0 0 = 1 | of 1 0 = 5 | of 2 0 = 0
            """);
        s.run("3 first: one at its WANT takes nothing of POWER", "site 0 6 = 0\n" + three + """
            come 0 0 0 9 = 0 | come 1 0 50 0 = 1 | come 2 0 50 0 = 2 | ticks 1 = 6 | of 0 0 = 0 | of 1 0 = 5 | of 2 0 = 1
            """);
        s.run("3 first: POWER is more than what is asked", "site 0 16 = 0\n" + three + """
            come 0 0 50 0 = 0 | come 1 0 50 0 = 1 | come 2 0 50 0 = 2 | ticks 1 = 15 | of 0 0 = 5 | of 1 0 = 5 | of 2 0 = 5
            """);
        s.run("3 first: by when they came to the PLUG, not by numbers", "site 0 7 = 0\n" + three + """
            come 0 0 50 0 = 0 | come 1 0 50 0 = 1 | ticks 1 = 7 | leave 0 = 200 | come 3 0 50 0 = 0 | ticks 1 = 7 | plugOf 0 3 = 3 | of 1 0 = 7 | of 3 0 = 2
            """);
        s.run("3 first: by when they came to the PLUG, not to the QUEUE", "site 0 7 = 0\n" + three + """
            fail 0 true = 1 | come 0 0 50 0 = 0 | ticks 1 = 0 | come 1 0 50 0 = 1 | ticks 1 = 5 | of 0 1 = 201 | of 1 1 = 100 | fail 0 false = 1
            come 2 0 50 0 = 1 | ticks 1 = 7 | of 0 0 = 10 | plugOf 0 3 = 2 | plugOf 2 3 = 1 | of 2 0 = 2 | of 1 0 = 0
            """);
    }

    private static void wants(Script s) {
        s.run("3 (3) below its WANT it asks for its GAIN, not more than to its WANT", """
            site 0 99 = 0 | plug 0 5 0 = 0 | car 50 1 5 0 0 = 0 | come 0 0 11 9 = 0 | ticks 2 = 10 | ticks 1 = 1 | of 0 0 = 11 | of 0 1 = 200 | ticks 1 = 0 | of 0 0 = 11
            """);
        s.run("3 (3) GAIN at the end of the BATTERY", """
            site 0 99 = 0 | plug 0 8 0 = 0 | car 20 1 8 0 0 = 0 | come 0 0 20 9 = 0 | ticks 1 = 8 | ticks 1 = 8 | ticks 1 = 4 | ticks 1 = 0 | of 0 0 = 20
            """);
        s.run("3 (3) a WANT of one more", "site 0 99 = 0 | plug 0 8 0 = 0 | car 20 1 8 0 3 = 0 | come 0 0 4 0 = 0 | ticks 1 = 1 | of 0 0 = 4 | of 0 1 = 0 | of 0 6 = 10");
        s.run("3 (3) one at its WANT gets nothing", "site 0 99 = 0 | plug 0 8 0 = 0 | car 20 1 8 0 3 = 0 | come 0 0 3 9 = 0 | ticks 3 = 0 | of 0 0 = 3 | of 0 3 = 0 | of 0 1 = 200");
    }

    private static void caps(Script s) {
        String two = "site 0 99 = 0 | plug 0 1 0 = 0 | car 30 1 1 0 8 = 0 | car 30 1 1 0 0 = 1 | car 30 1 1 1 0 = 2\n";
        s.run("3 (4) at cap percents of its BATTERY at least (33 of 30 is 9.9)", two + """
            tape cap 33;
            read 0 = 1 | come 0 0 30 9 = 0 | come 1 0 30 9 = 1 | ticks 1 = 1 | of 0 0 = 9 | of 0 1 = 200 | ticks 1 = 1 | of 0 0 = 10 | of 0 1 = 0
            """);
        s.run("3 (4) at cap percents of its BATTERY to the unit (30 of 30 is 9)", two + """
            tape cap 30;
            read 0 = 1 | come 0 0 30 9 = 0 | come 1 0 30 9 = 1 | ticks 1 = 1 | of 0 0 = 9 | of 0 1 = 0
            """);
        s.run("3 (4) while somebody in the QUEUE has its CABLE: nobody is there", two + """
            tape cap 0;
            read 0 = 1 | come 0 0 30 9 = 0 | ticks 5 = 5 | of 0 1 = 200
            """);
        s.run("3 (4) while somebody in the QUEUE has its CABLE: one of another", two + """
            tape cap 0;
            read 0 = 1 | come 0 0 30 9 = 0 | come 2 0 30 9 = 1 | ticks 5 = 5 | of 0 1 = 200 | come 1 0 30 0 = 1 | ticks 1 = 1 | of 0 1 = 0
            """);
        s.run("3 (4) while somebody in the QUEUE has its CABLE: of another SITE", two + """
            tape cap 0;
            read 0 = 1 | site 5 9 = 1 | come 0 0 30 9 = 0 | come 1 1 30 9 = 0 | ticks 5 = 5 | of 0 1 = 200
            """);
        s.run("3 (4) cap 0: it leaves behind its first TICK, with what that gave", two + """
            tape cap 0;
            read 0 = 1 | come 0 0 30 9 = 0 | come 1 0 30 9 = 1 | ticks 1 = 1 | of 0 1 = 0 | of 0 0 = 9 | of 0 6 = 10 | of 1 1 = 100 | ticks 1 = 1 | of 1 1 = 200
            """);
        s.run("3 (4) cap 100: a full one leaves while somebody waits, and is not IDLE in that TICK", """
            site 0 99 = 0 | plug 0 1 0 = 0 | car 10 1 1 0 10 = 0 | car 10 1 1 0 0 = 1 | come 0 0 10 50 = 0 | come 1 0 10 0 = 1 | ticks 1 = 0 | of 0 1 = 0
            of 0 5 = 0 | of 1 1 = 100
            """);
        s.run("3 (4) cap 100: one unit below full it stays", """
            site 0 99 = 0 | plug 0 1 0 = 0 | car 10 1 1 0 9 = 0 | car 10 1 1 0 0 = 1 | come 0 0 9 50 = 0 | come 1 0 10 0 = 1 | ticks 49 = 0 | of 0 1 = 200
            of 0 5 = 49 | ticks 1 = 0 | of 0 1 = 0 | of 0 5 = 50
            """);
        s.run("3 (4) cap 100: 199 of 200 is below", """
            site 0 99 = 0 | plug 0 1 0 = 0 | car 200 1 1 0 198 = 0 | car 10 1 1 0 0 = 1 | come 0 0 200 50 = 0 | come 1 0 10 0 = 1 | ticks 1 = 1 | of 0 0 = 199
            of 0 1 = 200 | ticks 1 = 1 | of 0 0 = 200 | of 0 1 = 0
            """);
        s.run("3 (4) at its WANT and below cap: it is IDLE though somebody waits", two + """
            tape cap 50;
            read 0 = 1 | come 0 0 8 2 = 0 | come 1 0 30 9 = 1 | ticks 1 = 0 | of 0 1 = 200 | of 0 5 = 1 | ticks 1 = 0 | of 0 1 = 0 | of 0 5 = 2
            """);
        s.run("3 (4) one that goes back from a PLUG that FAILS is somebody in the QUEUE", two + """
            tape cap 0;
            read 0 = 1 | plug 0 1 0 = 1 | fail 1 true = 1 | come 0 0 30 9 = 0 | come 1 0 30 9 = 1 | ticks 1 = 1 | of 0 1 = 0 | of 1 1 = 100
            """);
        s.run("3 (4) each of several leaves for one that waits", """
            site 0 99 = 0 | plug 0 1 0 = 0 | plug 0 1 0 = 1 | car 30 1 1 0 8 = 0 | car 30 1 1 0 8 = 1 | car 30 1 1 0 8 = 2
            tape cap 10;
            read 0 = 1 | come 0 0 30 9 = 0 | come 1 0 30 9 = 1 | come 2 0 30 9 = 2 | ticks 1 = 2 | of 0 1 = 0 | of 1 1 = 0 | of 2 1 = 100
            """);
    }

    private static void stays(Script s) {
        s.run("3 (4) with STAY 0 at once, as it is at its WANT", """
            site 0 99 = 0 | plug 0 1 0 = 0 | car 30 1 1 0 8 = 0 | come 0 0 10 0 = 0 | ticks 1 = 1 | of 0 1 = 200 | ticks 1 = 1 | of 0 1 = 0 | of 0 5 = 0
            """);
        s.run("3 (4) IDLE in this TICK if it was at its WANT as the TICK began", """
            site 0 99 = 0 | plug 0 1 0 = 0 | car 30 1 1 0 8 = 0 | come 0 0 9 1 = 0 | ticks 1 = 1 | of 0 5 = 0 | of 0 1 = 200 | ticks 1 = 0 | of 0 5 = 1 | of 0 1 = 0
            """);
        s.run("3 (4) it leaves when it has been IDLE for STAY TICKS: 50", """
            site 0 99 = 0 | plug 0 1 0 = 0 | car 30 1 1 0 8 = 0 | come 0 0 9 50 = 0 | ticks 1 = 1 | ticks 49 = 0 | of 0 5 = 49 | of 0 1 = 200 | ticks 1 = 0
            of 0 5 = 50 | of 0 1 = 0 | ticks 9 = 0 | of 0 5 = 50
            """);
        s.run("3 (4) it is at its WANT as it comes", """
            site 0 99 = 0 | plug 0 1 0 = 0 | plug 0 1 0 = 1 | car 30 1 1 0 8 = 0 | car 30 1 1 0 8 = 1 | come 0 0 8 1 = 0 | come 1 0 8 2 = 1 | ticks 1 = 0
            of 0 5 = 1 | of 0 1 = 0 | of 1 5 = 1 | of 1 1 = 201 | ticks 1 = 0 | of 1 5 = 2 | of 1 1 = 0
            """);
        s.run("3 (4) STAY begins anew when it comes again", """
            site 0 99 = 0 | plug 0 1 0 = 0 | car 30 1 1 0 8 = 0 | come 0 0 8 3 = 0 | ticks 2 = 0 | leave 0 = 200 | of 0 5 = 2 | come 0 0 8 3 = 0 | ticks 2 = 0
            of 0 1 = 200 | of 0 5 = 4 | ticks 1 = 0 | of 0 1 = 0 | of 0 5 = 5
            """);
        s.run("3 a CAR in the QUEUE is not IDLE, though it is at its WANT", """
            site 0 99 = 0 | car 30 1 1 0 8 = 0 | come 0 0 8 0 = 0 | ticks 9 = 0 | of 0 1 = 100 | of 0 5 = 0 | of 0 4 = 9
            """);
    }

    private static void idlePay(Script s) {
        String car = "site 0 99 = 0 | plug 0 1 0 = 0 | car 30 1 1 0 8 = 0\n";
        s.run("3 idle N for each IDLE TICK behind the first (after N) ones: after 49", car + """
            tape idle 3 after 49;
            read 0 = 1 | come 0 0 8 50 = 0 | ticks 49 = 0 | of 0 6 = 0 | ticks 1 = 0 | of 0 6 = 3 | of 0 1 = 0
            """);
        s.run("3 idle N for each IDLE TICK behind the first (after N) ones: after 50", car + """
            tape idle 3 after 50;
            read 0 = 1 | come 0 0 8 50 = 0 | ticks 60 = 0 | of 0 6 = 0 | of 0 1 = 0
            """);
        s.run("3 idle N for each IDLE TICK behind the first (after N) ones: after 0, idle 100", car + """
            tape idle 100 after 0;
            read 0 = 1 | come 0 0 9 3 = 0 | ticks 1 = 1 | of 0 6 = 10 | ticks 1 = 0 | of 0 6 = 110 | ticks 9 = 0 | of 0 6 = 310 | many 11 = 310
            """);
        s.run("3 idle N for each IDLE TICK behind the first (after N) ones: after 1", car + """
            tape idle 7 after 1;
            read 0 = 1 | come 0 0 8 3 = 0 | ticks 1 = 0 | of 0 6 = 0 | ticks 1 = 0 | of 0 6 = 7 | ticks 1 = 0 | of 0 6 = 14 | come 0 0 8 2 = 0 | ticks 1 = 0 | of 0 6 = 14
            ticks 1 = 0 | of 0 6 = 21
            """);
        s.run("3 idle 0 after 100 at first", car + "come 0 0 8 50 = 0 | ticks 100 = 0 | of 0 5 = 50 | of 0 6 = 0");
        s.run("3 idle is not of the HOUR's PRICE", car + """
            tape idle 4 after 0;
            read 0 = 1 | set 10 99 = 10 | come 0 0 8 1 = 0 | ticks 1 = 0 | of 0 6 = 4
            """);
    }

    private static void plugOfs(Script s) {
        s.run("18 there is none such", """
            plugOf 0 0 = -1 | site 0 1 = 0 | plug 0 1 0 = 0 | plugOf 0 0 = 0 | plugOf 1 0 = -1 | plugOf -1 0 = -1 | plugOf 2147483647 0 = -1 | plugOf -2147483648 0 = -1
            """);
        s.run("18 another what", "site 0 1 = 0 | plug 0 1 0 = 0 | plugOf 0 -1 = -1 | plugOf 0 7 = -1 | plugOf 0 6 = 0 | plugOf 0 2147483647 = -1 | plugOf 0 -2147483648 = -1");
        s.run("18 the CAR at it (NONE)", """
            site 0 9 = 0 | plug 0 1 0 = 0 | plugOf 0 3 = -3 | car 10 1 1 0 0 = 0 | come 0 0 2 0 = 0 | plugOf 0 3 = -3 | ticks 1 = 1 | plugOf 0 3 = 0 | ticks 1 = 1
            plugOf 0 3 = -3 | come 0 0 9 0 = 0 | ticks 1 = 1 | plugOf 0 3 = 0 | fail 0 true = 1 | plugOf 0 3 = 0 | ticks 1 = 0 | plugOf 0 3 = -3
            """);
    }
}
