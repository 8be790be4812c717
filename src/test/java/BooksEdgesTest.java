/** The edges that chapter 6 and promises 24 to 27 name: each run is for one sentence of the document, told by its name. */
public final class BooksEdgesTest {
    public static void main(String[] args) {
        Script s = new Script();
        lines(s);
        whatIsAsked(s);
        mayBeOne(s);
        best(s);
        clears(s);
        manies(s);
        s.end("BooksEdgesTest");
    }

    private static void lines(Script s) {
        s.run("24 CAR is 0 to 11, whether there is one or not", """
            line false -1 0 0 = -1 | line true -1 0 0 = -1 | line false 12 0 0 = -1 | line true 12 0 0 = -1 | many 7 = 0 | many 8 = 0 | line false 0 0 0 = 0
            line false 11 0 0 = 1 | line true 0 0 0 = 0 | line true 11 0 0 = 1 | line false 2147483647 0 0 = -1 | line false -2147483648 0 0 = -1
            """);
        s.run("24 TICK is 0 to 2000", """
            line false 0 -1 0 = -1 | line false 0 2001 0 = -1 | line true 0 -1 0 = -1 | line true 0 2001 0 = -1 | many 7 = 0 | line false 0 0 0 = 0
            line false 0 2000 0 = 1 | line true 0 2000 0 = 0 | line false 0 2147483647 0 = -1 | line false 0 -2147483648 0 = -1 | joined 10 = -3 | joined 11 = 0
            """);
        s.run("24 units are 0 to 200", """
            line false 0 0 -1 = -1 | line false 0 0 201 = -1 | line true 0 0 -1 = -1 | line true 0 0 201 = -1 | many 7 = 0 | many 8 = 0 | line false 0 0 0 = 0
            line false 0 0 200 = 1 | line true 0 0 200 = 0 | line false 0 0 2147483647 = -1 | line false 0 0 -2147483648 = -1 | joined 10 = -3 | joined 11 = 0
            """);
        s.run("24 FULL: 7 at most each; NUMBER ahead of it", """
            line false 0 0 0 = 0 | line false 0 0 0 = 1 | line false 0 0 0 = 2 | line false 0 0 0 = 3 | line false 0 0 0 = 4 | line false 0 0 0 = 5 | many 7 = 6
            line false 0 0 0 = 6 | many 7 = 7 | line false 0 0 0 = -2 | line false 12 0 0 = -1 | line false 0 2001 0 = -1 | line false 0 0 201 = -1 | many 7 = 7
            line true 0 0 0 = 0 | line true 0 0 0 = 1 | line true 0 0 0 = 2 | line true 0 0 0 = 3 | line true 0 0 0 = 4 | line true 0 0 0 = 5 | many 8 = 6
            line true 0 0 0 = 6 | many 8 = 7 | line true 0 0 0 = -2 | line true 12 0 0 = -1 | many 8 = 7 | joined 0 = 7 | joined 16 = 6
            """);
    }

    private static void whatIsAsked(Script s) {
        s.run("25 another what", "joined -1 = -1 | joined 2 = -1 | joined 9 = -1 | joined 2147483647 = -1 | joined -2147483648 = -1 | joined 0 = 0 | joined 1 = 0");
        s.run("25 no such LINE: of A", """
            joined 10 = -1 | line true 0 0 0 = 0 | joined 10 = -1 | line false 0 0 0 = 0 | joined 10 = 0 | joined 11 = -1 | line false 0 0 0 = 1 | joined 11 = -3
            joined 12 = -1
            """);
        s.run("25 no such LINE: behind the last that may be", """
            line false 1 0 0 = 0 | line false 1 0 0 = 1 | line false 1 0 0 = 2 | line false 1 0 0 = 3 | line false 1 0 0 = 4 | line false 1 0 0 = 5
            joined 16 = -1 | line false 1 0 0 = 6 | joined 16 = -3 | joined 17 = -1
            """);
        s.run("25 NONE: no LINE of B for it", "line false 0 0 0 = 0 | joined 10 = -3 | joined 0 = 0 | joined 1 = 0 | line true 1 0 0 = 0 | joined 10 = -3");
        s.run("25 only LINES of B", "line true 0 0 0 = 0 | joined 0 = 0 | joined 1 = 0");
    }

    private static void mayBeOne(Script s) {
        s.run("6 the same CAR", "line false 3 0 0 = 0 | line true 2 0 0 = 0 | line true 4 0 0 = 1 | joined 0 = 0 | line true 3 0 0 = 2 | joined 0 = 1 | joined 10 = 2");
        s.run("6 TICKS that differ by 2 at most: later", "line false 3 10 0 = 0 | line true 3 13 0 = 0 | joined 0 = 0 | line true 3 12 0 = 1 | joined 0 = 1 | joined 10 = 1");
        s.run("6 TICKS that differ by 2 at most: earlier", "line false 3 10 0 = 0 | line true 3 7 0 = 0 | joined 0 = 0 | line true 3 8 0 = 1 | joined 0 = 1 | joined 10 = 1");
        s.run("6 units that differ by DRIFT at most: 0 at first", """
            line false 3 10 50 = 0 | line true 3 10 51 = 0 | line true 3 10 49 = 1 | joined 0 = 0 | line true 3 10 50 = 2 | joined 0 = 1 | joined 10 = 2 | joined 1 = 0
            """);
        s.run("6 units that differ by DRIFT at most: 20, more", """
            set 1 20 = 0 | line false 3 10 50 = 0 | line true 3 10 71 = 0 | joined 0 = 0 | line true 3 10 70 = 1 | joined 0 = 1 | joined 1 = 20 | set 1 19 = 20 | joined 0 = 0
            joined 1 = 0
            """);
        s.run("6 units that differ by DRIFT at most: 20, less", """
            set 1 20 = 0 | line false 3 10 50 = 0 | line true 3 10 29 = 0 | joined 0 = 0 | line true 3 10 30 = 1 | joined 0 = 1 | joined 1 = 20 | set 1 19 = 20 | joined 0 = 0
            """);
        s.run("6 each LINE in one at most: of A", "line false 3 10 50 = 0 | line true 3 10 50 = 0 | line true 3 10 50 = 1 | joined 0 = 1 | joined 10 = 0");
        s.run("6 each LINE in one at most: of B", "line false 3 10 50 = 0 | line false 3 10 50 = 1 | line true 3 10 50 = 0 | joined 0 = 1 | joined 10 = 0 | joined 11 = -3");
    }

    private static void best(Script s) {
        s.run("6 as many pairs as can be, though differences grow", """
            set 1 20 = 0 | line false 1 10 50 = 0 | line false 1 13 50 = 1 | line true 1 12 50 = 0 | line true 1 9 70 = 1 | joined 0 = 2 | joined 1 = 20
            joined 10 = 1 | joined 11 = 0
            """);
        s.run("6 as many pairs as can be: three with 20 each ahead of two with less", """
            set 1 20 = 0 | line false 1 2 50 = 0 | line false 1 4 30 = 1 | line false 1 6 50 = 2 | line true 1 0 70 = 0 | line true 1 2 50 = 1 | line true 1 4 70 = 2
            joined 0 = 3 | joined 10 = 0 | joined 11 = 1 | joined 12 = 2 | joined 1 = 60
            """);
        s.run("6 of several with the least differences of units together", """
            set 1 20 = 0 | line false 1 10 50 = 0 | line false 1 10 60 = 1 | line true 1 10 61 = 0 | line true 1 10 51 = 1 | joined 0 = 2 | joined 1 = 2
            joined 10 = 1 | joined 11 = 0
            """);
        s.run("6 the least differences together, not of the first LINE alone", """
            set 1 20 = 0 | line false 1 10 50 = 0 | line false 1 10 40 = 1 | line true 1 10 50 = 0 | line true 1 10 65 = 1 | joined 0 = 2 | joined 1 = 25 | joined 10 = 1 | joined 11 = 0
            """);
        s.run("6 of several the lesser LINE of B for the first LINE of A for which they are unlike", """
            set 1 20 = 0 | line false 1 10 50 = 0 | line false 1 10 60 = 1 | line true 1 10 70 = 0 | line true 1 10 65 = 1 | joined 0 = 2 | joined 1 = 25
            joined 10 = 0 | joined 11 = 1
            """);
        s.run("6 none behind all", """
            set 1 20 = 0 | line false 1 10 50 = 0 | line false 1 10 50 = 1 | line false 1 10 50 = 2 | line true 1 10 50 = 0 | line true 1 10 50 = 1
            joined 10 = 0 | joined 11 = 1 | joined 12 = -3 | joined 0 = 2
            """);
        s.run("6 none where it must be", """
            set 1 20 = 0 | line false 1 10 52 = 0 | line false 1 10 50 = 1 | line true 1 10 50 = 0 | joined 10 = -3 | joined 11 = 0 | joined 0 = 1 | joined 1 = 0
            """);
        s.run("6 seven pairs, the differences together at their greatest", """
            set 1 20 = 0 | line false 0 5 0 = 0 | line false 1 5 0 = 1 | line false 2 5 0 = 2 | line false 3 5 0 = 3 | line false 4 5 0 = 4 | line false 5 5 0 = 5
            line false 6 5 0 = 6 | line true 6 5 20 = 0 | line true 5 5 20 = 1 | line true 4 5 20 = 2 | line true 3 5 20 = 3 | line true 2 5 20 = 4 | line true 1 5 20 = 5
            line true 0 5 20 = 6 | joined 0 = 7 | joined 1 = 140 | joined 10 = 6 | joined 16 = 0 | joined 13 = 3
            """);
    }

    private static void clears(Script s) {
        s.run("26 how many there were: none", "clear = 0 | clear = 0 | many 7 = 0");
        s.run("26 how many there were: all that may be", """
            line false 0 0 0 = 0 | line false 0 0 0 = 1 | line false 0 0 0 = 2 | line false 0 0 0 = 3 | line false 0 0 0 = 4 | line false 0 0 0 = 5
            line false 0 0 0 = 6 | line true 0 0 0 = 0 | line true 0 0 0 = 1 | line true 0 0 0 = 2 | line true 0 0 0 = 3 | line true 0 0 0 = 4 | line true 0 0 0 = 5
            line true 0 0 0 = 6 | clear = 14 | clear = 0 | many 7 = 0 | many 8 = 0 | joined 0 = 0 | joined 1 = 0 | joined 10 = -1
            line false 5 5 5 = 0 | line true 5 5 5 = 0 | joined 0 = 1 | joined 10 = 0 | joined 11 = -1
            """);
        s.run("26 nothing of LINES that are gone counts for fewer new ones", """
            set 1 5 = 0 | line false 1 5 50 = 0 | line false 2 5 50 = 1 | line false 3 5 50 = 2 | line true 2 5 50 = 0 | line true 3 5 50 = 1 | joined 0 = 2 | clear = 5
            line false 4 5 50 = 0 | line true 4 5 55 = 0 | joined 0 = 1 | joined 1 = 5 | joined 10 = 0
            """);
        s.run("26 all LINES go, and nothing else", "set 1 5 = 0 | line true 0 0 0 = 0 | ticks 4 = 0 | feed 0 3 = 3 | clear = 1 | set 1 5 = 5 | many 0 = 4 | many 9 = 3");
    }

    private static void manies(Script s) {
        s.run("27 another what", "many -1 = -1 | many 12 = -1 | many 11 = 0 | many 0 = 0 | many 2147483647 = -1 | many -2147483648 = -1");
        s.run("27 in QUEUES, at PLUGS: of all SITES", """
            site 0 9 = 0 | site 1 9 = 1 | plug 0 1 0 = 0 | plug 1 1 0 = 1 | plug 1 1 0 = 2 | car 20 1 1 0 0 = 0 | car 20 1 1 0 0 = 1 | car 20 1 1 0 0 = 2
            car 20 1 1 0 0 = 3 | car 20 1 1 0 0 = 4 | come 0 0 9 0 = 0 | come 1 0 9 0 = 1 | come 2 1 9 0 = 0 | come 3 1 9 0 = 1 | come 4 1 9 0 = 2
            many 4 = 5 | many 5 = 0 | ticks 1 = 3 | many 4 = 2 | many 5 = 3 | many 10 = 3 | many 11 = 30 | leave 0 = 200 | many 5 = 2 | leave 1 = 100 | many 4 = 1
            """);
        s.run("27 units in all, and what all CARS PAY, units and IDLE TICKS, also of those that are away", """
            site 0 9 = 0 | plug 0 2 0 = 0 | car 20 1 2 0 0 = 0 | car 20 1 2 0 0 = 1
            tape idle 5 after 0;
            read 0 = 1 | come 0 0 2 1 = 0 | ticks 2 = 2 | many 10 = 2 | many 11 = 25 | of 0 1 = 0 | come 1 0 2 0 = 0 | ticks 1 = 2 | many 10 = 4 | many 11 = 45
            """);
    }
}
