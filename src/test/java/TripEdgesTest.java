/** The edges that chapter 2 and promise 9 name: each run is for one sentence of the document, told by its name. */
public final class TripEdgesTest {
    public static void main(String[] args) {
        Script s = new Script();
        numbers(s);
        ways(s);
        stops(s);
        choices(s);
        s.end("TripEdgesTest");
    }

    private static void numbers(Script s) {
        s.run("9 there is no such CAR", """
            trip 0 0 1 0 = -1 | car 10 1 1 0 10 = 0 | trip 0 0 1 0 = 1 | trip 1 0 1 0 = -1 | trip -1 0 1 0 = -1
            trip 2147483647 0 1 0 = -1 | trip -2147483648 0 1 0 = -1
            """);
        s.run("9 a is 0 to 998", """
            car 10 1 1 0 10 = 0 | trip 0 -1 1 0 = -1 | trip 0 0 1 0 = 1 | trip 0 998 999 0 = 1 | trip 0 999 999 0 = -1 | trip 0 999 1000 0 = -1
            trip 0 -2147483648 1 0 = -1 | trip 0 2147483647 999 0 = -1 | trip 0 2147483647 -2147483648 0 = -1
            """);
        s.run("9 b is above a", "car 10 1 1 0 10 = 0 | trip 0 5 4 0 = -1 | trip 0 5 5 0 = -1 | trip 0 5 6 0 = 1 | trip 0 0 0 0 = -1 | trip 0 5 -2147483648 0 = -1");
        s.run("9 b is not above 999", "car 10 1 1 0 10 = 0 | trip 0 0 999 0 = 125 | trip 0 0 1000 0 = -1 | trip 0 998 1000 0 = -1 | trip 0 0 2147483647 0 = -1");
        s.run("9 another what", """
            car 10 1 1 0 10 = 0 | trip 0 0 1 -1 = -1 | trip 0 0 1 0 = 1 | trip 0 0 1 1 = 0 | trip 0 0 1 2 = 9 | trip 0 0 1 3 = -1 | trip 0 0 1 9 = -1
            trip 0 0 1 -10 = -1 | trip 0 0 1 2147483647 = -1 | trip 0 0 1 -2147483648 = -1
            """);
        s.run("9 no such SITE", """
            car 10 1 1 0 10 = 0 | trip 0 0 1 10 = -1 | site 1 1 = 0 | trip 0 0 1 10 = 0 | trip 0 0 1 11 = -1 | site 2 1 = 1 | site 3 1 = 2
            site 4 1 = 3 | site 5 1 = 4 | trip 0 0 1 15 = -1 | site 6 1 = 5 | trip 0 0 1 15 = 0 | trip 0 0 1 16 = -1
            """);
        s.run("9 NONE: there is none, whatever is asked; NUMBER ahead of it", """
            car 10 1 1 0 0 = 0 | site 50 1 = 0 | trip 0 0 1 0 = -3 | trip 0 0 1 1 = -3 | trip 0 0 1 2 = -3 | trip 0 0 1 10 = -3
            trip 0 0 1 3 = -1 | trip 0 0 1 11 = -1 | trip 0 1 1 0 = -1 | trip 1 0 1 0 = -1
            """);
        s.run("9 a CAR in a QUEUE or at a PLUG has a TRIP too, with its CHARGE, and a TRIP changes nothing", """
            site 100 9 = 0 | plug 0 4 0 = 0 | car 50 10 4 0 10 = 0 | trip 0 0 100 2 = 0 | come 0 0 30 0 = 0 | trip 0 0 100 2 = 0 | ticks 1 = 4
            of 0 1 = 200 | trip 0 0 100 2 = 4 | of 0 0 = 14 | many 0 = 1 | many 6 = 1
            """);
    }

    private static void ways(Script s) {
        s.run("2 it drives to each SITE on the way in turn, and to b (each such way by itself, whether it stops or not)", """
            car 10 1 1 0 10 = 0 | trip 0 0 16 0 = 2 | trip 0 0 16 2 = 9 | site 4 1 = 0 | trip 0 0 16 0 = 3 | trip 0 0 16 2 = 8
            site 12 1 = 1 | trip 0 0 16 0 = 3 | trip 0 0 16 2 = 7 | trip 0 4 16 0 = 2 | trip 0 4 16 2 = 8 | trip 0 3 16 2 = 7
            trip 0 0 12 0 = 2 | trip 0 0 12 2 = 8 | trip 0 0 11 2 = 8 | trip 0 0 4 2 = 9 | trip 0 0 3 2 = 9 | trip 0 12 13 2 = 9
            """);
        s.run("2 a SITE at km 0 is not on the way from 0, one at 999 is on the way to 999 and takes nothing more", """
            site 0 1 = 0 | site 999 1 = 1 | car 200 10 1 0 200 = 0 | trip 0 0 999 0 = 125 | trip 0 0 999 2 = 100 | trip 0 998 999 2 = 199
            """);
        s.run("2 at each SITE behind a it may stop: not at a itself", """
            site 100 1 = 0 | plug 0 10 0 = 0 | car 50 10 10 0 5 = 0 | trip 0 100 200 0 = -3 | trip 0 100 150 0 = 7 | trip 0 100 151 0 = -3
            trip 0 99 200 0 = 15 | trip 0 99 200 1 = 1 | trip 0 99 200 2 = 4 | trip 0 99 200 10 = 1
            """);
        s.run("2 and not behind b", """
            site 100 1 = 0 | site 101 1 = 1 | plug 0 10 0 = 0 | plug 1 10 0 = 1 | car 50 10 10 0 10 = 0
            trip 0 0 100 0 = 13 | trip 0 0 100 1 = 0 | trip 0 0 100 2 = 0 | trip 0 0 100 10 = 0 | trip 0 0 100 11 = 0
            trip 0 0 101 0 = 15 | trip 0 0 101 10 = 1 | trip 0 0 101 11 = 0 | trip 0 0 101 2 = 9
            """);
        s.run("2 CHARGE is never below 0: at b", "car 10 10 1 0 10 = 0 | trip 0 0 100 0 = 13 | trip 0 0 100 2 = 0 | trip 0 0 101 0 = -3 | trip 0 899 999 2 = 0");
        s.run("2 CHARGE is never below 0: at a SITE where it doesn't stop", """
            site 95 1 = 0 | car 10 10 1 0 10 = 0 | trip 0 0 95 2 = 0 | trip 0 0 96 0 = -3 | trip 0 5 105 2 = 0 | trip 0 4 105 0 = -3
            """);
        s.run("2 CHARGE is never below 0: at a SITE where it stops", """
            site 100 1 = 0 | plug 0 10 0 = 0 | car 50 10 10 0 10 = 0 | car 50 10 10 0 9 = 1 | trip 0 0 200 0 = 27 | trip 0 0 200 2 = 0
            trip 1 0 200 0 = -3 | trip 1 10 200 0 = 26
            """);
        s.run("2 with its CHARGE, in the COLD", """
            car 50 10 10 0 15 = 0 | trip 0 0 150 0 = 19 | trip 0 0 151 0 = -3 | set 0 50 = 0 | trip 0 0 100 0 = 13 | trip 0 0 101 0 = -3
            set 0 0 = 50 | go 0 10 = 14 | trip 0 0 140 0 = 18 | trip 0 0 141 0 = -3
            """);
    }

    private static void stops(Script s) {
        s.run("2 a PLUG that SERVES it is of its CABLE", """
            site 10 1 = 0 | car 20 10 9 1 1 = 0 | trip 0 0 20 0 = -3 | plug 0 9 0 = 0 | plug 0 9 2 = 1 | trip 0 0 20 0 = -3 | plug 0 9 1 = 2 | trip 0 0 20 0 = 5
            """);
        s.run("2 a PLUG that SERVES it is not BROKEN beyond doubt", """
            site 10 1 = 0 | plug 0 9 0 = 0 | car 20 10 9 0 1 = 0 | car 20 10 9 0 1 = 1 | says 0 false = 1 | fail 0 true = 1 | trip 0 0 20 0 = 5
            tried 0 0 true = 1 | trip 0 0 20 0 = 5 | tried 0 1 true = 2 | trip 0 0 20 0 = -3 | tried 0 1 false = 3 | trip 0 0 20 0 = 5
            """);
        s.run("2 the one with the greatest MOST", """
            site 10 1 = 0 | plug 0 2 0 = 0 | plug 0 5 0 = 1 | plug 0 4 0 = 2 | plug 0 9 1 = 3 | car 50 10 9 0 1 = 0 | car 20 10 9 0 1 = 1
            trip 0 0 110 10 = 2 | trip 0 0 110 2 = 0 | tried 1 0 true = 1 | tried 1 1 true = 2 | trip 0 0 110 10 = 3 | trip 0 0 110 2 = 2
            tried 2 0 true = 3 | tried 2 1 true = 4 | trip 0 0 110 10 = 5 | trip 0 0 110 2 = 0
            """);
        s.run("2 a PLUG of another SITE does not serve", """
            site 10 1 = 0 | site 500 1 = 1 | plug 1 9 0 = 0 | car 20 10 9 0 1 = 0 | trip 0 0 20 0 = -3 | plug 0 9 0 = 1 | trip 0 0 20 10 = 1
            """);
        s.run("2 a stop takes WAIT of the SITE (0 to 99)", """
            site 10 1 = 0 | plug 0 9 0 = 0 | car 20 10 9 0 1 = 0 | trip 0 0 20 0 = 5 | set 40 1 = 0 | trip 0 0 20 0 = 6 | set 40 99 = 1
            trip 0 0 20 0 = 104 | trip 0 0 20 10 = 1 | trip 0 0 10 0 = 2
            """);
        s.run("2 WAIT of a SITE where it doesn't stop is not taken", "site 10 1 = 0 | set 40 99 = 0 | car 20 10 9 0 5 = 0 | trip 0 0 20 0 = 4");
        s.run("2 t TICKS with GAIN each: it charges ever slower", """
            site 10 1 = 0 | plug 0 8 0 = 0 | car 20 10 8 0 1 = 0 | trip 0 0 90 10 = 1 | trip 0 0 91 10 = 2 | trip 0 0 170 10 = 2 | trip 0 0 171 10 = 3
            trip 0 0 171 2 = 3 | trip 0 0 210 10 = 3 | trip 0 0 210 2 = 0 | trip 0 0 211 10 = -3
            """);
        s.run("2 while there is GAIN: not more than BATTERY", """
            site 10 1 = 0 | plug 0 150 0 = 0 | car 10 10 150 0 1 = 0 | trip 0 0 110 0 = 16 | trip 0 0 110 2 = 0 | trip 0 0 110 10 = 1 | trip 0 0 111 0 = -3
            """);
        s.run("2 while there is GAIN: the longest stop", """
            site 499 1 = 0 | plug 0 1 0 = 0 | car 200 40 1 0 200 = 0 | trip 0 0 999 0 = 326 | trip 0 0 999 10 = 200 | trip 0 0 999 2 = 0
            """);
        s.run("2 GAIN in the COLD", """
            site 10 1 = 0 | plug 0 8 0 = 0 | car 100 10 8 0 5 = 0 | set 0 50 = 0 | trip 0 0 20 10 = 0 | trip 0 0 50 10 = 1 | trip 0 0 50 2 = 1
            """);
        s.run("2 as many stops as there may be", """
            site 100 1 = 0 | site 200 1 = 1 | site 300 1 = 2 | site 400 1 = 3 | site 500 1 = 4 | site 600 1 = 5 | plug 0 150 0 = 0 | plug 1 150 0 = 1
            plug 2 150 0 = 2 | plug 3 150 0 = 3 | plug 4 150 0 = 4 | plug 5 150 0 = 5 | car 10 10 150 0 10 = 0
            trip 0 0 700 0 = 97 | trip 0 0 700 1 = 6 | trip 0 0 700 2 = 0 | trip 0 0 700 10 = 1 | trip 0 0 700 15 = 1
            set 40 99 = 0 | set 41 99 = 0 | set 42 99 = 0 | set 43 99 = 0 | set 44 99 = 0 | set 45 99 = 0 | trip 0 0 700 0 = 691 | trip 0 0 701 0 = -3
            trip 0 0 600 1 = 5 | trip 0 0 600 15 = 0 | trip 0 100 700 10 = 0 | trip 0 100 700 1 = 5
            """);
    }

    private static void choices(Script s) {
        s.run("2 THE TRIP takes the fewest TICKS, though it has more stops", """
            site 100 1 = 0 | site 500 1 = 1 | plug 0 10 0 = 0 | plug 1 10 0 = 1 | car 100 10 10 0 10 = 0
            trip 0 0 999 0 = 135 | trip 0 0 999 1 = 2 | trip 0 0 999 10 = 4 | trip 0 0 999 11 = 5 | trip 0 0 999 2 = 0
            """);
        s.run("2 THE TRIP takes the fewest TICKS: the quicker PLUG behind", """
            site 10 1 = 0 | site 20 1 = 1 | plug 0 1 0 = 0 | plug 1 10 0 = 1 | car 100 10 10 0 2 = 0
            trip 0 0 120 0 = 18 | trip 0 0 120 10 = 0 | trip 0 0 120 11 = 1 | set 41 8 = 0 | trip 0 0 120 0 = 26 | trip 0 0 120 11 = 1
            set 41 9 = 8 | trip 0 0 120 0 = 27 | trip 0 0 120 10 = 0 | set 41 10 = 9 | trip 0 0 120 0 = 27 | trip 0 0 120 10 = 10 | trip 0 0 120 11 = 0
            """);
        s.run("2 of several it has the fewest stops", """
            site 100 1 = 0 | site 500 1 = 1 | plug 0 10 0 = 0 | plug 1 10 0 = 1 | car 100 10 10 0 10 = 0 | set 41 1 = 0
            trip 0 0 999 0 = 136 | trip 0 0 999 1 = 1 | trip 0 0 999 10 = 10 | trip 0 0 999 11 = 0
            """);
        s.run("2 of several the least t at the first SITE at which they are unlike: t and t", """
            site 100 1 = 0 | site 500 1 = 1 | plug 0 10 0 = 0 | plug 1 10 0 = 1 | car 100 10 10 0 10 = 0 | set 40 5 = 0
            trip 0 0 989 0 = 139 | trip 0 0 989 1 = 2 | trip 0 0 989 10 = 4 | trip 0 0 989 11 = 5
            """);
        s.run("2 of several the least t at the first SITE at which they are unlike (0: no stop)", """
            site 8 1 = 0 | site 16 1 = 1 | site 24 1 = 2 | plug 0 4 0 = 0 | plug 1 4 0 = 1 | plug 2 4 0 = 2 | car 100 10 4 0 3 = 0
            trip 0 0 104 0 = 15 | trip 0 0 104 1 = 1 | trip 0 0 104 10 = 0 | trip 0 0 104 11 = 0 | trip 0 0 104 12 = 2
            set 42 1 = 0 | trip 0 0 104 0 = 15 | trip 0 0 104 10 = 0 | trip 0 0 104 11 = 2 | trip 0 0 104 12 = 0
            """);
        s.run("9 10 + s its t at SITE s (0: no stop, or it isn't on the way)", """
            site 8 1 = 0 | site 16 1 = 1 | site 24 1 = 2 | site 200 1 = 3 | plug 1 4 0 = 0 | plug 2 4 0 = 1 | plug 3 4 0 = 2 | car 100 10 4 0 2 = 0
            trip 0 8 104 0 = 14 | trip 0 8 104 10 = 0 | trip 0 8 104 11 = 0 | trip 0 8 104 12 = 2 | trip 0 8 104 13 = 0
            trip 0 0 104 12 = 0 | trip 0 0 104 11 = 3 | trip 0 0 104 1 = 1
            """);
    }
}
