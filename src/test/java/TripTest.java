/** Promise 9: trip. */
public final class TripTest {
    public static void main(String[] args) {
        Script s = new Script();
        s.run("9 trip, wrong numbers", """
            trip 0 0 1 0 = -1 | car 100 10 10 0 100 = 0 | trip -1 0 1 0 = -1 | trip 1 0 1 0 = -1
            trip 0 -1 1 0 = -1 | trip 0 999 999 0 = -1 | trip 0 999 1000 0 = -1 | trip 0 998 999 0 = 1 | trip 0 998 1000 0 = -1
            trip 0 5 5 0 = -1 | trip 0 5 4 0 = -1 | trip 0 0 1 3 = -1 | trip 0 0 1 -1 = -1 | trip 0 0 1 9 = -1
            trip 0 0 1 10 = -1 | site 500 1 = 0 | trip 0 0 1 10 = 0 | trip 0 0 1 11 = -1
            trip 0 0 1 2147483647 = -1 | trip 0 0 1 -2147483648 = -1 | trip 0 2147483647 5 0 = -1
            """);
        s.run("9 trip, no stop", """
            car 100 10 10 0 100 = 0 | car 10 40 1 0 0 = 1
            trip 0 0 999 0 = 125 | trip 0 0 999 1 = 0 | trip 0 0 999 2 = 0 | trip 0 1 999 2 = 0 | trip 0 100 300 2 = 80
            trip 1 0 1 0 = -3
            """);
        s.run("9 trip, each way by itself is cut up", """
            site 1 1 = 0 | site 2 1 = 1 | site 3 1 = 2 | car 10 1 10 0 10 = 0
            trip 0 0 8 0 = 4 | trip 0 0 8 2 = 6 | trip 0 1 8 0 = 3 | trip 0 3 8 0 = 1 | trip 0 3 8 2 = 9 | trip 0 0 3 0 = 3
            trip 0 0 3 2 = 7
            """);
        s.run("9 trip, a site at its end may be a stop, one at its start not", """
            site 100 1 = 0 | plug 0 10 0 = 0 | car 50 10 10 0 10 = 0
            trip 0 0 100 0 = 13 | trip 0 0 100 1 = 0 | trip 0 0 100 2 = 0 | trip 0 100 210 0 = -3 | trip 0 99 200 0 = 15
            trip 0 99 200 10 = 1 | trip 0 99 200 1 = 1 | trip 0 99 200 2 = 9 | trip 0 0 101 10 = 1
            """);
        s.run("9 trip, a cable, a broken plug, the greatest most", """
            site 100 1 = 0 | car 100 10 100 1 10 = 0 | car 10 1 1 0 0 = 1
            trip 0 0 150 0 = -3 | plug 0 50 0 = 0 | trip 0 0 150 0 = -3 | plug 0 1 1 = 1 | trip 0 0 150 0 = 25 | trip 0 0 150 10 = 5
            plug 0 5 1 = 2 | trip 0 0 150 0 = 21 | trip 0 0 150 10 = 1 | plug 0 2 1 = 3 | trip 0 0 150 10 = 1
            tried 2 0 true = 1 | trip 0 0 150 10 = 1 | says 2 false = 1 | trip 0 0 150 10 = 1
            tried 2 1 true = 2 | trip 0 0 150 10 = 3 | trip 0 0 150 2 = 1 | fail 3 true = 1 | trip 0 0 150 10 = 3
            tried 2 0 false = 3 | trip 0 0 150 10 = 1
            """);
        s.run("9 trip, the fewest ticks though it has more stops, and the least t at the first", """
            site 100 1 = 0 | site 500 1 = 1 | plug 0 10 0 = 0 | plug 1 10 0 = 1 | car 100 10 10 0 10 = 0
            trip 0 0 999 0 = 135 | trip 0 0 999 1 = 2 | trip 0 0 999 2 = 0 | trip 0 0 999 10 = 4 | trip 0 0 999 11 = 5
            set 41 1 = 0 | trip 0 0 999 0 = 136 | trip 0 0 999 1 = 1 | trip 0 0 999 10 = 10 | trip 0 0 999 11 = 0
            set 41 0 = 1 | set 40 5 = 0 | trip 0 0 999 0 = 140 | trip 0 0 999 10 = 4
            """);
        s.run("9 trip, of as many ticks the fewest stops", """
            site 8 1 = 0 | site 16 1 = 1 | plug 0 4 0 = 0 | plug 1 4 0 = 1 | car 100 10 4 0 2 = 0
            trip 0 0 96 0 = 14 | trip 0 0 96 1 = 1 | trip 0 0 96 10 = 0 | trip 0 0 96 11 = 2
            """);
        s.run("9 trip, of as many stops the least t at the first site", """
            site 8 1 = 0 | site 16 1 = 1 | plug 0 4 0 = 0 | plug 1 4 0 = 1 | car 10 40 4 0 10 = 0
            trip 0 0 39 0 = 7 | trip 0 0 39 10 = 0 | trip 0 0 39 11 = 2
            set 41 1 = 0 | trip 0 0 39 0 = 8 | trip 0 0 39 10 = 0 | trip 0 0 39 11 = 2
            trip 0 0 32 0 = 7 | trip 0 0 32 11 = 2 | trip 0 0 30 0 = 5 | trip 0 0 30 10 = 1 | trip 0 0 30 11 = 0
            """);
        s.run("9 trip, a car that is full can't stop, and waits count", """
            site 0 1 = 0 | site 400 1 = 1 | site 800 1 = 2 | plug 1 150 0 = 0 | plug 2 1 0 = 1 | car 40 10 150 0 40 = 0
            set 41 99 = 0 | trip 0 0 999 0 = 245 | trip 0 0 999 1 = 2 | trip 0 0 999 11 = 1 | trip 0 0 999 12 = 20
            trip 0 0 999 10 = 0 | trip 0 0 999 2 = 0 | set 0 1 = 0 | trip 0 0 999 0 = -3
            """);
        s.run("9 trip changes nothing, and takes a car that is not away", """
            site 100 1 = 0 | plug 0 10 0 = 0 | car 50 10 10 0 10 = 0 | come 0 0 20 0 = 0 | trip 0 99 200 10 = 1
            of 0 0 = 10 | of 0 1 = 100 | many 0 = 0 | ticks 1 = 1 | of 0 1 = 200 | trip 0 99 200 2 = 0
            """);
        s.end("TripTest");
    }
}
