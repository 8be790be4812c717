/** The edges that chapter 1 and promises 1 to 8 name: each run is for one sentence of the document, told by its name. */
public final class RoadEdgesTest {
    public static void main(String[] args) {
        Script s = new Script();
        newObject(s);
        sites(s);
        plugs(s);
        cars(s);
        sets(s);
        drives(s);
        drivesOfAllWays(s);
        gains(s);
        gainsForAllCharges(s);
        ofs(s);
        s.end("RoadEdgesTest");
    }

    private static void newObject(Script s) {
        s.run("1 NOW is 0", "many 0 = 0");
        s.run("1 no SITES, PLUGS, CARS", """
            many 1 = 0 | many 2 = 0 | many 3 = 0 | siteOf 0 0 = -1 | plugOf 0 0 = -1 | of 0 0 = -1 | plug 0 1 0 = -1 | set 40 0 = -1
            gain 0 0 0 = -1 | drive 0 0 0 = -1 | trip 0 0 1 0 = -1 | come 0 0 0 0 = -1 | leave 0 = -1 | go 0 1 = -1 | read 0 = -1
            fail 0 true = -1 | says 0 true = -1 | tried 0 0 true = -1 | advice 1 0 0 = -1 | advice 0 0 0 = -1
            """);
        s.run("1 nothing is kept", "back = -3");
        s.run("1 all else as told: COLD, DRIFT and PRICE of each HOUR at first", """
            set 0 1 = 0 | set 1 1 = 0
            set 10 0 = 10 | set 11 0 = 10 | set 12 0 = 10 | set 13 0 = 10 | set 14 0 = 10 | set 15 0 = 10 | set 16 0 = 10
            set 17 0 = 10 | set 18 0 = 10 | set 19 0 = 10 | set 20 0 = 10 | set 21 0 = 10 | set 22 0 = 10 | set 23 0 = 10
            set 24 0 = 10 | set 25 0 = 10 | set 26 0 = 10 | set 27 0 = 10 | set 28 0 = 10 | set 29 0 = 10 | set 30 0 = 10
            set 31 0 = 10 | set 32 0 = 10 | set 33 0 = 10
            """);
        s.run("1 all else as told: nobody, no TRIES, LINES, bytes, units, pay", """
            many 4 = 0 | many 5 = 0 | many 6 = 0 | many 7 = 0 | many 8 = 0 | many 9 = 0 | many 10 = 0 | many 11 = 0
            tryOf 0 0 = -3 | lies = 0 | joined 0 = 0 | joined 1 = 0 | joined 10 = -1 | clear = 0
            """);
        s.run("1 a TICK goes though there is nothing", "ticks 1 = 0 | ticks 100 = 0 | many 0 = 101");
    }

    private static void sites(Script s) {
        s.run("2 km 0 is the least", "site -1 1 = -1 | many 1 = 0 | site 0 1 = 0 | siteOf 0 0 = 0");
        s.run("2 km 999 is the greatest", "site 1000 1 = -1 | many 1 = 0 | site 999 1 = 0 | siteOf 0 0 = 999");
        s.run("2 power 1 is the least", "site 5 0 = -1 | site 5 -1 = -1 | many 1 = 0 | site 5 1 = 0 | siteOf 0 1 = 1");
        s.run("2 power 300 is the greatest", "site 5 301 = -1 | many 1 = 0 | site 5 300 = 0 | siteOf 0 1 = 300");
        s.run("2 any other number", """
            site -2147483648 1 = -1 | site 2147483647 1 = -1 | site 5 -2147483648 = -1 | site 5 2147483647 = -1 | many 1 = 0
            """);
        s.run("2 STATE: km isn't greater than that of the one ahead", """
            site 7 1 = 0 | site 7 1 = -4 | site 6 1 = -4 | site 0 1 = -4 | many 1 = 1 | site 8 2 = 1 | site 8 1 = -4 | site 7 1 = -4
            site 9 3 = 2 | siteOf 0 0 = 7 | siteOf 1 0 = 8 | siteOf 2 0 = 9 | siteOf 1 1 = 2 | siteOf 2 1 = 3
            """);
        s.run("2 FULL: 6 at most, numbered from 0 as they come", """
            site 0 1 = 0 | site 1 1 = 1 | site 2 1 = 2 | site 3 1 = 3 | site 4 1 = 4 | many 1 = 5 | site 5 9 = 5 | many 1 = 6
            site 6 1 = -2 | site 999 300 = -2 | many 1 = 6 | siteOf 5 0 = 5 | siteOf 5 1 = 9 | siteOf 6 0 = -1
            """);
        s.run("2 refusals, of several the first one named", """
            site 10 1 = 0 | site 10 0 = -1 | site 9 301 = -1 | site -1 1 = -1 | site 11 1 = 1 | site 12 1 = 2 | site 13 1 = 3
            site 14 1 = 4 | site 999 1 = 5 | site 999 1 = -4 | site 998 1 = -4 | site 1000 1 = -1 | site 999 0 = -1 | site 998 301 = -1
            """);
        s.run("2 FULL and NUMBER", """
            site 1 1 = 0 | site 2 1 = 1 | site 3 1 = 2 | site 4 1 = 3 | site 5 1 = 4 | site 6 1 = 5
            site 7 0 = -1 | site 7 301 = -1 | site 1000 1 = -1 | site 6 1 = -4 | site 7 1 = -2
            """);
    }

    private static void plugs(Script s) {
        s.run("3 there is no such SITE", """
            plug 0 1 0 = -1 | site 3 9 = 0 | plug 1 1 0 = -1 | plug -1 1 0 = -1 | many 2 = 0 | plug 0 1 0 = 0 | site 4 9 = 1
            plug 2 1 0 = -1 | plug 1 1 0 = 1 | plug -2147483648 1 0 = -1 | plug 2147483647 1 0 = -1 | plugOf 0 0 = 0 | plugOf 1 0 = 1
            """);
        s.run("3 of the last SITE that may be", """
            site 1 1 = 0 | site 2 1 = 1 | site 3 1 = 2 | site 4 1 = 3 | site 5 1 = 4 | plug 5 1 0 = -1 | site 6 1 = 5 | plug 5 1 0 = 0
            plug 6 1 0 = -1 | plugOf 0 0 = 5
            """);
        s.run("3 most 1 is the least", "site 3 9 = 0 | plug 0 0 0 = -1 | plug 0 -1 0 = -1 | many 2 = 0 | plug 0 1 0 = 0 | plugOf 0 1 = 1");
        s.run("3 most 150 is the greatest", "site 3 9 = 0 | plug 0 151 0 = -1 | many 2 = 0 | plug 0 150 0 = 0 | plugOf 0 1 = 150");
        s.run("3 CABLE 0 is the least", "site 3 9 = 0 | plug 0 1 -1 = -1 | many 2 = 0 | plug 0 1 0 = 0 | plugOf 0 2 = 0");
        s.run("3 CABLE 2 is the greatest", "site 3 9 = 0 | plug 0 1 3 = -1 | many 2 = 0 | plug 0 1 2 = 0 | plugOf 0 2 = 2 | plug 0 1 1 = 1");
        s.run("3 any other number", """
            site 3 9 = 0 | plug 0 2147483647 0 = -1 | plug 0 -2147483648 0 = -1 | plug 0 1 2147483647 = -1 | plug 0 1 -2147483648 = -1
            many 2 = 0
            """);
        s.run("3 FULL: 16 at most of all SITES, numbered from 0 as they come; NUMBER ahead of it", """
            site 3 9 = 0 | site 4 9 = 1 | plug 1 1 0 = 0 | plug 0 1 0 = 1 | plug 1 1 0 = 2 | plug 0 1 0 = 3 | plug 1 1 0 = 4
            plug 0 1 0 = 5 | plug 1 1 0 = 6 | plug 0 1 0 = 7 | plug 1 1 0 = 8 | plug 0 1 0 = 9 | plug 1 1 0 = 10 | plug 0 1 0 = 11
            plug 1 1 0 = 12 | plug 0 1 0 = 13 | plug 1 1 0 = 14 | many 2 = 15 | plug 0 7 2 = 15 | many 2 = 16
            plug 0 1 0 = -2 | plug 1 150 2 = -2 | plug 2 1 0 = -1 | plug 0 0 0 = -1 | plug 0 151 0 = -1 | plug 0 1 3 = -1
            many 2 = 16 | plugOf 15 0 = 0 | plugOf 15 1 = 7 | plugOf 15 2 = 2 | plugOf 16 0 = -1
            """);
    }

    private static void cars(Script s) {
        s.run("4 BATTERY 10 is the least", "car 9 1 1 0 0 = -1 | many 3 = 0 | car 10 1 1 0 0 = 0");
        s.run("4 BATTERY 200 is the greatest", "car 201 1 1 0 0 = -1 | many 3 = 0 | car 200 1 1 0 0 = 0");
        s.run("4 USE 1 is the least", "car 10 0 1 0 0 = -1 | car 10 -1 1 0 0 = -1 | many 3 = 0 | car 10 1 1 0 0 = 0 | drive 0 100 1 = 1");
        s.run("4 USE 40 is the greatest", "car 10 41 1 0 0 = -1 | many 3 = 0 | car 10 40 1 0 0 = 0 | drive 0 100 1 = 40");
        s.run("4 RATE 1 is the least", """
            car 10 1 0 0 0 = -1 | car 10 1 -1 0 0 = -1 | many 3 = 0 | car 10 1 1 0 0 = 0 | site 1 1 = 0 | plug 0 150 0 = 0 | gain 0 0 0 = 1
            """);
        s.run("4 RATE 150 is the greatest", """
            car 200 1 151 0 0 = -1 | many 3 = 0 | car 200 1 150 0 0 = 0 | site 1 1 = 0 | plug 0 150 0 = 0 | gain 0 0 0 = 150
            """);
        s.run("4 CABLE 0 to 2", """
            car 10 1 1 -1 0 = -1 | car 10 1 1 3 0 = -1 | many 3 = 0 | car 10 1 1 0 0 = 0 | car 10 1 1 1 0 = 1 | car 10 1 1 2 0 = 2
            """);
        s.run("4 CHARGE 0 is the least", "car 10 1 1 0 -1 = -1 | many 3 = 0 | car 10 1 1 0 0 = 0 | of 0 0 = 0");
        s.run("4 CHARGE BATTERY is the greatest", """
            car 10 1 1 0 11 = -1 | many 3 = 0 | car 10 1 1 0 10 = 0 | of 0 0 = 10 | car 200 1 1 0 201 = -1 | car 200 1 1 0 200 = 1 | of 1 0 = 200
            """);
        s.run("4 any other number", """
            car -2147483648 1 1 0 0 = -1 | car 2147483647 1 1 0 0 = -1 | car 10 -2147483648 1 0 0 = -1 | car 10 2147483647 1 0 0 = -1
            car 10 1 -2147483648 0 0 = -1 | car 10 1 2147483647 0 0 = -1 | car 10 1 1 -2147483648 0 = -1 | car 10 1 1 2147483647 0 = -1
            car 10 1 1 0 -2147483648 = -1 | car 10 1 1 0 2147483647 = -1 | many 3 = 0
            """);
        s.run("4 FULL: 12 at most, numbered from 0 as they come; NUMBER ahead of it", """
            car 10 1 1 0 0 = 0 | car 10 1 1 0 1 = 1 | car 10 1 1 0 2 = 2 | car 10 1 1 0 3 = 3 | car 10 1 1 0 4 = 4 | car 10 1 1 0 5 = 5
            car 10 1 1 0 6 = 6 | car 10 1 1 0 7 = 7 | car 10 1 1 0 8 = 8 | car 10 1 1 0 9 = 9 | car 10 1 1 0 10 = 10 | many 3 = 11
            car 11 1 1 0 11 = 11 | many 3 = 12 | car 10 1 1 0 0 = -2 | car 200 40 150 2 200 = -2 | car 9 1 1 0 0 = -1
            car 10 1 1 0 11 = -1 | many 3 = 12 | of 0 0 = 0 | of 10 0 = 10 | of 11 0 = 11 | of 12 0 = -1
            """);
        s.run("4 A CAR is away at first", "car 10 1 1 0 5 = 0 | of 0 1 = 0 | of 0 7 = -3 | leave 0 = -4 | go 0 100 = 4");
    }

    private static void sets(Script s) {
        s.run("5 COLD is 0 to 50: what it was", """
            set 0 -1 = -1 | set 0 51 = -1 | set 0 0 = 0 | set 0 50 = 0 | set 0 51 = -1 | set 0 -1 = -1 | set 0 49 = 50 | set 0 1 = 49 | set 0 0 = 1
            """);
        s.run("5 DRIFT is 0 to 20: what it was", """
            set 1 -1 = -1 | set 1 21 = -1 | set 1 0 = 0 | set 1 20 = 0 | set 1 21 = -1 | set 1 -1 = -1 | set 1 19 = 20 | set 1 1 = 19 | set 1 0 = 1
            """);
        s.run("5 PRICE is 0 to 99: what it was", """
            set 10 -1 = -1 | set 10 100 = -1 | set 10 0 = 10 | set 10 99 = 0 | set 10 100 = -1 | set 10 98 = 99
            set 33 -1 = -1 | set 33 100 = -1 | set 33 99 = 10 | set 33 0 = 99 | set 33 1 = 0 | set 32 5 = 10 | set 11 5 = 10
            """);
        s.run("5 WAIT is 0 to 99, 0 at first: what it was", """
            site 1 1 = 0 | site 2 1 = 1 | set 40 -1 = -1 | set 40 100 = -1 | set 40 99 = 0 | set 40 100 = -1 | set 40 0 = 99 | set 41 0 = 0
            set 41 99 = 0 | set 40 0 = 0 | siteOf 0 7 = 0 | siteOf 1 7 = 99
            """);
        s.run("5 another which", """
            set -1 0 = -1 | set 2 0 = -1 | set 9 0 = -1 | set 34 0 = -1 | set 39 0 = -1 | set -2147483648 0 = -1 | set 2147483647 0 = -1
            set -10 0 = -1 | set -40 0 = -1 | set -2147483608 0 = -1
            """);
        s.run("5 no such SITE", """
            set 40 0 = -1 | site 1 1 = 0 | set 40 0 = 0 | set 41 0 = -1 | site 2 1 = 1 | site 3 1 = 2 | site 4 1 = 3 | site 5 1 = 4
            set 45 0 = -1 | site 6 1 = 5 | set 45 7 = 0 | set 45 0 = 7 | set 46 0 = -1 | set 50 0 = -1
            """);
        s.run("5 any other number v", """
            site 1 1 = 0 | set 0 2147483647 = -1 | set 0 -2147483648 = -1 | set 1 2147483647 = -1 | set 1 -2147483648 = -1
            set 10 2147483647 = -1 | set 10 -2147483648 = -1 | set 40 2147483647 = -1 | set 40 -2147483648 = -1 | siteOf 0 7 = 0
            """);
        s.run("5 each is set by itself", """
            site 1 1 = 0 | set 0 1 = 0 | set 1 2 = 0 | set 10 3 = 10 | set 11 4 = 10 | set 33 5 = 10 | set 40 6 = 0
            set 0 0 = 1 | set 1 0 = 2 | set 10 0 = 3 | set 11 0 = 4 | set 33 0 = 5 | set 40 0 = 6 | set 12 0 = 10
            """);
    }

    private static void drives(Script s) {
        s.run("6 there is no such CAR", "drive 0 1 0 = -1 | car 10 1 1 0 0 = 0 | drive 0 1 0 = 1 | drive 1 1 0 = -1 | drive -1 1 0 = -1");
        s.run("6 n is 0 to 999", """
            car 10 40 1 0 0 = 0 | drive 0 -1 0 = -1 | drive 0 -1 1 = -1 | drive 0 0 0 = 0 | drive 0 0 1 = 0 | drive 0 999 0 = 125 | drive 0 999 1 = 400
            drive 0 1000 0 = -1 | drive 0 1000 1 = -1 | drive 0 2147483647 1 = -1 | drive 0 -2147483648 0 = -1
            """);
        s.run("6 what is 0 or 1", "car 10 1 1 0 0 = 0 | drive 0 1 -1 = -1 | drive 0 1 2 = -1 | drive 0 1 0 = 1 | drive 0 1 1 = 1");
        s.run("1 n by 8 TICKS, cut up to the next whole number (0 of 0)", """
            car 10 1 1 0 0 = 0 | drive 0 0 0 = 0 | drive 0 1 0 = 1 | drive 0 7 0 = 1 | drive 0 8 0 = 1 | drive 0 9 0 = 2 | drive 0 16 0 = 2
            drive 0 17 0 = 3 | drive 0 992 0 = 124 | drive 0 993 0 = 125
            """);
        s.run("1 n times USE by 100 of CHARGE, cut up to the next whole number (0 of 0)", """
            car 10 1 1 0 0 = 0 | car 10 40 1 0 0 = 1 | drive 0 0 1 = 0 | drive 0 1 1 = 1 | drive 0 100 1 = 1 | drive 0 101 1 = 2 | drive 0 200 1 = 2
            drive 1 2 1 = 1 | drive 1 3 1 = 2 | drive 1 5 1 = 2 | drive 1 6 1 = 3 | drive 1 0 1 = 0
            """);
        s.run("1 times (100 and COLD): only CHARGE grows by COLD", """
            car 10 1 1 0 0 = 0 | car 10 40 1 0 0 = 1 | set 0 1 = 0 | drive 0 99 1 = 1 | drive 0 100 1 = 2 | drive 0 100 0 = 13 | set 0 50 = 1
            drive 0 66 1 = 1 | drive 0 67 1 = 2 | drive 0 0 1 = 0 | drive 1 999 1 = 600 | drive 1 5 1 = 3 | drive 1 6 1 = 4 | drive 1 999 0 = 125
            """);
        s.run("6 what driving takes does not ask for CHARGE, nor take it", "car 10 40 1 0 0 = 0 | drive 0 999 1 = 400 | of 0 0 = 0");
    }

    /** The sentence of driving once more, for all ways: what it takes is enough, and one less is not. */
    private static void drivesOfAllWays(Script s) {
        for (int use : new int[] {1, 7, 33, 39, 40}) {
            for (int cold : new int[] {0, 1, 17, 49, 50}) {
                for (int from = 0; from <= 999; from += 250) {
                    RoadPlugs plugs = new RoadPlugs();
                    plugs.car(10, use, 1, 0, 0);
                    plugs.set(0, cold);
                    for (int n = from; n < from + 250; n++) {
                        String way = "drive of " + n + " with use " + use + " and cold " + cold;
                        long exact = (long) n * use * (100 + cold);
                        long charge = plugs.drive(0, n, 1);
                        s.due(way + " is enough", charge * 10000 >= exact ? 1 : 0, 1);
                        s.due(way + " is the least", (charge - 1) * 10000 < exact ? 1 : 0, 1);
                        s.due(way + " takes ticks", plugs.drive(0, n, 0), n / 8 + (n % 8 > 0 ? 1 : 0));
                    }
                }
            }
        }
    }

    private static void gains(Script s) {
        s.run("7 there is no such CAR, PLUG", """
            gain 0 0 0 = -1 | site 1 1 = 0 | plug 0 1 0 = 0 | gain 0 0 0 = -1 | car 10 1 1 0 0 = 0 | gain 0 0 0 = 1 | gain 1 0 0 = -1
            gain -1 0 0 = -1 | gain 0 1 0 = -1 | gain 0 -1 0 = -1
            """);
        s.run("7 c is 0 to BATTERY, whatever CHARGE is", """
            site 1 1 = 0 | plug 0 1 0 = 0 | car 10 1 1 0 5 = 0 | gain 0 0 -1 = -1 | gain 0 0 0 = 1 | gain 0 0 10 = 0 | gain 0 0 11 = -1
            gain 0 0 2147483647 = -1 | gain 0 0 -2147483648 = -1 | of 0 0 = 5
            """);
        s.run("7 a PLUG of another CABLE, or that FAILS, does not matter", """
            site 1 1 = 0 | plug 0 5 0 = 0 | car 100 1 9 2 0 = 0 | gain 0 0 0 = 5 | fail 0 true = 1 | gain 0 0 0 = 5
            """);
        s.run("1 the lesser one of RATE and MOST", """
            site 1 1 = 0 | plug 0 5 0 = 0 | plug 0 6 0 = 1 | plug 0 7 0 = 2 | plug 0 150 0 = 3 | car 100 1 6 0 0 = 0 | car 200 1 150 0 0 = 1
            gain 0 0 0 = 5 | gain 0 1 0 = 6 | gain 0 2 0 = 6 | gain 0 3 0 = 6 | gain 1 3 0 = 150 | gain 1 2 0 = 7
            """);
        s.run("1 times (100 less COLD) by 100, the rest away", """
            site 1 1 = 0 | plug 0 150 0 = 0 | car 200 1 150 0 0 = 0 | car 200 1 3 0 0 = 1 | set 0 1 = 0 | gain 0 0 0 = 148 | gain 1 0 0 = 2
            set 0 50 = 1 | gain 0 0 0 = 75 | gain 1 0 0 = 1 | set 0 34 = 50 | gain 1 0 0 = 1 | set 0 33 = 34 | gain 1 0 0 = 2
            """);
        s.run("1 the half (the rest away), if 5 c is 4 times BATTERY at least", """
            site 1 1 = 0 | plug 0 9 0 = 0 | car 100 1 9 0 0 = 0 | car 101 1 9 0 0 = 1 | car 104 1 9 0 0 = 2
            gain 0 0 79 = 9 | gain 0 0 80 = 4 | gain 1 0 80 = 9 | gain 1 0 81 = 4 | gain 2 0 83 = 9 | gain 2 0 84 = 4
            """);
        s.run("1 a quarter instead, if 20 c is 19 times BATTERY at least", """
            site 1 1 = 0 | plug 0 11 0 = 0 | car 200 1 11 0 0 = 0 | car 199 1 11 0 0 = 1 | car 181 1 11 0 0 = 2
            gain 0 0 189 = 5 | gain 0 0 190 = 2 | gain 1 0 189 = 5 | gain 1 0 190 = 2 | gain 2 0 171 = 5 | gain 2 0 172 = 2
            """);
        s.run("1 1 at least", """
            site 1 1 = 0 | plug 0 1 0 = 0 | plug 0 3 0 = 1 | car 100 1 9 0 0 = 0 | gain 0 0 80 = 1 | gain 0 0 95 = 1 | gain 0 1 95 = 1
            gain 0 0 99 = 1 | set 0 1 = 0 | gain 0 0 0 = 1 | gain 0 0 99 = 1 | set 0 50 = 1 | gain 0 0 0 = 1 | gain 0 1 80 = 1
            """);
        s.run("1 but not more than BATTERY less c", """
            site 1 1 = 0 | plug 0 150 0 = 0 | car 10 1 150 0 0 = 0 | car 200 1 150 0 0 = 1 | gain 0 0 0 = 10 | gain 0 0 7 = 3 | gain 0 0 9 = 1
            gain 0 0 10 = 0 | gain 1 0 50 = 150 | gain 1 0 51 = 149 | gain 1 0 159 = 41 | gain 1 0 160 = 40 | gain 1 0 190 = 10 | gain 1 0 200 = 0
            """);
    }

    /** The sentence of GAIN once more, for all charges of some batteries, with fractions instead of whole numbers. */
    private static void gainsForAllCharges(Script s) {
        for (int battery : new int[] {10, 11, 13, 19, 20, 21, 50, 99, 100, 101, 119, 200}) {
            for (int rate : new int[] {1, 2, 3, 7, 8, 150}) {
                for (int cold : new int[] {0, 1, 25, 50}) {
                    RoadPlugs plugs = new RoadPlugs();
                    plugs.site(0, 1);
                    plugs.plug(0, 40, 0);
                    plugs.car(battery, 1, rate, 0, 0);
                    plugs.set(0, cold);
                    for (int c = 0; c <= battery; c++) {
                        double part = c / (double) battery;
                        double share = part > 0.95 - 1e-9 ? 0.25 : part > 0.8 - 1e-9 ? 0.5 : 1;
                        double full = Math.floor(Math.min(rate, 40) * (100 - cold) / 100.0 + 1e-9);
                        long due = Math.min(battery - c, Math.max(1, (long) Math.floor(full * share)));
                        s.due("gain of battery " + battery + ", rate " + rate + ", cold " + cold + ", c " + c, plugs.gain(0, 0, c), due);
                    }
                }
            }
        }
    }

    private static void ofs(Script s) {
        s.run("8 there is none such", "of 0 0 = -1 | car 10 1 1 0 0 = 0 | of 0 0 = 0 | of 1 0 = -1 | of -1 0 = -1 | of -2147483648 0 = -1 | of 2147483647 0 = -1");
        s.run("8 the last CAR that may be", """
            car 10 1 1 0 0 = 0 | car 10 1 1 0 0 = 1 | car 10 1 1 0 0 = 2 | car 10 1 1 0 0 = 3 | car 10 1 1 0 0 = 4 | car 10 1 1 0 0 = 5
            car 10 1 1 0 0 = 6 | car 10 1 1 0 0 = 7 | car 10 1 1 0 0 = 8 | car 10 1 1 0 0 = 9 | car 10 1 1 0 0 = 10 | of 11 0 = -1
            car 10 1 1 0 9 = 11 | of 11 0 = 9 | of 12 0 = -1
            """);
        s.run("8 another what", "car 10 1 1 0 0 = 0 | of 0 -1 = -1 | of 0 8 = -1 | of 0 2147483647 = -1 | of 0 -2147483648 = -1 | of 0 7 = -3 | of 0 6 = 0");
        s.run("8 where: 100 and the SITE, 0 away", """
            site 1 1 = 0 | site 2 1 = 1 | site 3 1 = 2 | site 4 1 = 3 | site 5 1 = 4 | site 6 1 = 5 | car 10 1 1 0 0 = 0 | of 0 1 = 0
            come 0 0 1 0 = 0 | of 0 1 = 100 | leave 0 = 100 | of 0 1 = 0 | come 0 5 1 0 = 0 | of 0 1 = 105 | leave 0 = 105 | of 0 1 = 0
            """);
        s.run("8 where: 200 and the PLUG", """
            site 1 9 = 0 | plug 0 1 0 = 0 | plug 0 1 0 = 1 | plug 0 1 0 = 2 | plug 0 1 0 = 3 | plug 0 1 0 = 4 | plug 0 1 0 = 5 | plug 0 1 0 = 6
            plug 0 1 0 = 7 | plug 0 1 0 = 8 | plug 0 1 0 = 9 | plug 0 1 0 = 10 | plug 0 1 0 = 11 | plug 0 1 0 = 12 | plug 0 1 0 = 13
            plug 0 1 0 = 14 | plug 0 1 1 = 15 | car 10 1 1 0 0 = 0 | car 10 1 1 1 0 = 1 | come 0 0 5 0 = 0 | come 1 0 5 0 = 1 | ticks 1 = 2
            of 0 1 = 200 | of 1 1 = 215 | plugOf 15 3 = 1 | plugOf 0 3 = 0 | leave 1 = 215 | of 1 1 = 0
            """);
        s.run("8 its place in the QUEUE (NONE: not in one)", """
            site 1 9 = 0 | plug 0 1 0 = 0 | car 10 1 1 0 0 = 0 | car 10 1 1 0 0 = 1 | car 10 1 1 0 0 = 2 | of 0 7 = -3
            come 0 0 5 0 = 0 | come 1 0 5 0 = 1 | come 2 0 5 0 = 2 | of 0 7 = 0 | of 1 7 = 1 | of 2 7 = 2 | ticks 1 = 1
            of 0 7 = -3 | of 1 7 = 0 | of 2 7 = 1 | leave 1 = 100 | of 1 7 = -3 | of 2 7 = 0
            """);
        s.run("8 units, TICKS that it WAITED, IDLE TICKS and PAY are counted in all, from one coming to the next", """
            site 1 9 = 0 | plug 0 2 0 = 0 | car 50 1 9 0 0 = 0 | car 50 1 9 0 0 = 1 | come 1 0 2 1 = 0 | come 0 0 2 1 = 1
            ticks 2 = 2 | of 0 4 = 2 | of 0 3 = 0 | ticks 2 = 2 | of 0 3 = 2 | of 0 4 = 2 | of 0 5 = 1 | of 0 6 = 20 | of 0 1 = 0
            come 1 0 4 1 = 0 | come 0 0 4 1 = 1 | ticks 2 = 2 | ticks 2 = 2 | of 0 3 = 4 | of 0 4 = 4 | of 0 5 = 2 | of 0 6 = 40 | of 0 0 = 4
            """);
    }
}
