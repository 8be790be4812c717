/** Promises 24 to 27: line, joined, clear, many. */
public final class BooksTest {
    public static void main(String[] args) {
        Script s = new Script();
        s.run("24 line", """
            line false -1 0 0 = -1 | line false 12 0 0 = -1 | line false 0 -1 0 = -1 | line false 0 2001 0 = -1
            line false 0 0 -1 = -1 | line true 0 0 201 = -1 | many 7 = 0 | many 8 = 0
            line false 11 2000 200 = 0 | many 7 = 1 | many 8 = 0 | line true 0 0 0 = 0 | line true 0 0 0 = 1 | many 8 = 2
            line false 0 0 0 = 1 | line false 0 0 0 = 2 | line false 0 0 0 = 3 | line false 0 0 0 = 4 | line false 0 0 0 = 5
            line false 0 0 0 = 6 | line false 0 0 0 = -2 | line false 12 0 0 = -1 | many 7 = 7 | line true 0 0 0 = 2
            line true 0 0 0 = 3 | line true 0 0 0 = 4 | line true 0 0 0 = 5 | line true 0 0 0 = 6 | line true 0 0 0 = -2
            line true 0 0 201 = -1 | joined 0 = 6 | joined 10 = -3 | joined 11 = 0 | joined 16 = 5 | joined 17 = -1
            """);
        s.run("25 joined, what may be one", """
            line false 1 100 50 = 0 | joined 0 = 0 | joined 10 = -3 | joined 11 = -1 | joined 2 = -1 | joined -1 = -1 | joined 9 = -1
            line true 2 100 50 = 0 | line true 1 97 50 = 1 | line true 1 103 50 = 2 | line true 1 100 51 = 3 | joined 0 = 0
            joined 10 = -3 | line true 1 98 50 = 4 | joined 0 = 1 | joined 1 = 0 | joined 10 = 4 | line true 1 102 50 = 5
            joined 10 = 4 | clear = 7 | line false 1 100 50 = 0 | line true 1 102 70 = 0 | set 1 19 = 0 | joined 0 = 0
            set 1 20 = 19 | joined 0 = 1 | joined 1 = 20 | joined 10 = 0 | line true 1 98 30 = 1 | joined 10 = 0
            line true 1 98 31 = 2 | joined 10 = 2 | joined 1 = 19 | joined 2147483647 = -1 | joined -2147483648 = -1
            """);
        s.run("25 joined, pairs ahead of differences", """
            set 1 20 = 0 | line false 1 10 10 = 0 | line false 1 13 10 = 1 | line true 1 12 10 = 0 | line true 1 9 30 = 1
            joined 0 = 2 | joined 1 = 20 | joined 10 = 1 | joined 11 = 0
            """);
        s.run("25 joined, the least differences, then the lesser line", """
            set 1 20 = 0 | line false 1 10 10 = 0 | line false 1 10 15 = 1 | line true 1 10 16 = 0 | line true 1 10 11 = 1
            joined 0 = 2 | joined 1 = 2 | joined 10 = 1 | joined 11 = 0
            line true 1 10 20 = 2 | line true 1 10 9 = 3 | joined 10 = 1 | joined 11 = 0
            clear = 6 | line false 1 10 10 = 0 | line false 1 10 20 = 1 | line true 1 10 5 = 0 | line true 1 10 5 = 1
            joined 1 = 20 | joined 10 = 0 | joined 11 = 1 | clear = 4
            line false 1 10 10 = 0 | line false 1 10 10 = 1 | line true 1 10 12 = 0 | joined 10 = 0 | joined 11 = -3 | joined 1 = 2
            """);
        s.run("26 clear", """
            clear = 0 | line false 1 1 1 = 0 | line true 1 1 1 = 0 | line true 1 1 1 = 1 | joined 0 = 1 | clear = 3 | clear = 0
            many 7 = 0 | many 8 = 0 | joined 0 = 0 | joined 10 = -1 | line false 2 1 1 = 0 | joined 0 = 0
            """);
        s.run("27 many", """
            many -1 = -1 | many 12 = -1 | site 0 50 = 0 | site 1 50 = 1 | plug 0 5 0 = 0 | plug 1 6 0 = 1 | plug 1 6 1 = 2
            car 50 1 9 0 0 = 0 | car 50 1 9 0 0 = 1 | car 50 1 9 0 0 = 2 | car 50 1 9 2 0 = 3
            come 0 0 50 0 = 0 | come 1 0 50 0 = 1 | come 2 1 50 0 = 0 | come 3 1 50 0 = 1 | many 4 = 4 | many 5 = 0
            ticks 2 = 22 | many 0 = 2 | many 1 = 2 | many 2 = 3 | many 3 = 4 | many 4 = 2 | many 5 = 2 | many 6 = 2
            many 10 = 22 | many 11 = 220 | feed 1 3 = 3 | many 9 = 3 | line true 1 1 1 = 0 | many 8 = 1 | many 7 = 0
            """);
        s.end("BooksTest");
    }
}
