/** Promises 1 to 8: a new object, site, plug, car, set, drive, gain, of. */
public final class RoadTest {
    public static void main(String[] args) {
        Script s = new Script();
        s.run("1 a new object", """
            many 0 = 0 | many 1 = 0 | many 2 = 0 | many 3 = 0 | many 4 = 0 | many 5 = 0 | many 6 = 0 | many 7 = 0
            many 8 = 0 | many 9 = 0 | many 10 = 0 | many 11 = 0
            back = -3 | lies = 0 | clear = 0 | joined 0 = 0 | joined 1 = 0
            siteOf 0 0 = -1 | plugOf 0 0 = -1 | of 0 0 = -1 | tryOf 0 0 = -3
            set 0 0 = 0 | set 1 0 = 0 | set 10 10 = 10 | set 33 10 = 10 | set 21 10 = 10
            """);
        s.run("1 a new site, plug, car", """
            site 3 4 = 0 | plug 0 5 2 = 0 | car 10 2 3 1 4 = 0
            siteOf 0 2 = 0 | siteOf 0 3 = 100 | siteOf 0 4 = 0 | siteOf 0 5 = 100 | siteOf 0 6 = 0 | siteOf 0 7 = 0
            siteOf 0 8 = 0 | plugOf 0 3 = -3 | plugOf 0 4 = 0 | plugOf 0 5 = 1 | plugOf 0 6 = 0 | fail 0 false = 0
            of 0 0 = 4 | of 0 1 = 0 | of 0 2 = 0 | of 0 3 = 0 | of 0 4 = 0 | of 0 5 = 0 | of 0 6 = 0 | of 0 7 = -3
            """);
        s.run("2 site", """
            site -1 1 = -1 | site 1000 1 = -1 | site 0 0 = -1 | site 0 301 = -1 | many 1 = 0
            site 0 300 = 0 | site 0 301 = -1 | site 0 1 = -4 | site 1 1 = 1 | site 0 1 = -4 | many 1 = 2
            siteOf 0 0 = 0 | siteOf 0 1 = 300 | siteOf 1 0 = 1 | siteOf 1 1 = 1
            site 2 1 = 2 | site 3 1 = 3 | site 500 1 = 4 | site 999 1 = 5
            site 999 1 = -4 | site 1000 1 = -1 | site 5 1 = -4 | many 1 = 6
            """);
        s.run("2 site, full", """
            site 1 1 = 0 | site 2 1 = 1 | site 3 1 = 2 | site 4 1 = 3 | site 5 1 = 4 | site 6 1 = 5
            site 7 1 = -2 | site 6 1 = -4 | site 7 0 = -1 | many 1 = 6
            """);
        s.run("3 plug", """
            plug 0 1 0 = -1 | site 5 5 = 0 | site 6 5 = 1
            plug -1 1 0 = -1 | plug 2 1 0 = -1 | plug 0 0 0 = -1 | plug 0 151 0 = -1 | plug 0 1 -1 = -1 | plug 0 1 3 = -1
            many 2 = 0 | plug 1 150 2 = 0 | plug 0 1 0 = 1
            plugOf 0 0 = 1 | plugOf 0 1 = 150 | plugOf 0 2 = 2 | plugOf 1 0 = 0 | plugOf 1 1 = 1 | plugOf 1 2 = 0
            plug 0 1 1 = 2 | plug 0 1 1 = 3 | plug 0 1 1 = 4 | plug 0 1 1 = 5 | plug 0 1 1 = 6 | plug 0 1 1 = 7
            plug 0 1 1 = 8 | plug 0 1 1 = 9 | plug 0 1 1 = 10 | plug 0 1 1 = 11 | plug 0 1 1 = 12 | plug 0 1 1 = 13
            plug 0 1 1 = 14 | plug 0 1 1 = 15 | plug 0 1 1 = -2 | plug 2 1 1 = -1 | many 2 = 16
            """);
        s.run("4 car", """
            car 9 1 1 0 0 = -1 | car 201 1 1 0 0 = -1 | car 10 0 1 0 0 = -1 | car 10 41 1 0 0 = -1 | car 10 1 0 0 0 = -1
            car 10 1 151 0 0 = -1 | car 10 1 1 -1 0 = -1 | car 10 1 1 3 0 = -1 | car 10 1 1 0 -1 = -1 | car 10 1 1 0 11 = -1
            many 3 = 0 | car 10 1 1 0 10 = 0 | car 200 40 150 2 0 = 1 | of 0 0 = 10 | of 1 0 = 0 | of 0 1 = 0
            car 200 40 150 2 200 = 2 | car 10 1 1 0 0 = 3 | car 10 1 1 0 0 = 4 | car 10 1 1 0 0 = 5 | car 10 1 1 0 0 = 6
            car 10 1 1 0 0 = 7 | car 10 1 1 0 0 = 8 | car 10 1 1 0 0 = 9 | car 10 1 1 0 0 = 10 | car 10 1 1 0 0 = 11
            car 10 1 1 0 0 = -2 | car 10 1 1 0 11 = -1 | many 3 = 12
            """);
        s.run("5 set", """
            set 0 -1 = -1 | set 0 51 = -1 | set 0 50 = 0 | set 0 7 = 50 | set 0 0 = 7
            set 1 -1 = -1 | set 1 21 = -1 | set 1 20 = 0 | set 1 3 = 20
            set 2 0 = -1 | set -1 0 = -1 | set 9 0 = -1 | set 34 0 = -1 | set 39 0 = -1
            set 10 99 = 10 | set 10 100 = -1 | set 10 -1 = -1 | set 10 0 = 99 | set 33 5 = 10 | set 33 6 = 5 | set 32 1 = 10
            set 40 1 = -1 | site 1 1 = 0 | set 40 99 = 0 | set 40 100 = -1 | set 40 -1 = -1 | set 40 4 = 99 | siteOf 0 7 = 4
            set 41 1 = -1 | site 2 1 = 1 | set 41 1 = 0 | siteOf 0 7 = 4 | siteOf 1 7 = 1 | set 50 1 = -1
            set -2147483648 0 = -1 | set 2147483647 0 = -1
            """);
        s.run("6 drive", """
            drive 0 0 0 = -1 | car 100 40 10 0 50 = 0 | car 100 1 10 0 50 = 1
            drive 0 -1 0 = -1 | drive 0 1000 0 = -1 | drive 0 1 2 = -1 | drive 0 1 -1 = -1 | drive 2 1 0 = -1 | drive -1 1 0 = -1
            drive 0 0 0 = 0 | drive 0 0 1 = 0 | drive 0 1 0 = 1 | drive 0 8 0 = 1 | drive 0 9 0 = 2 | drive 0 999 0 = 125
            drive 0 1 1 = 1 | drive 0 999 1 = 400 | drive 1 100 1 = 1 | drive 1 101 1 = 2 | drive 1 1 1 = 1
            set 0 50 = 0 | drive 0 999 1 = 600 | drive 1 100 1 = 2 | drive 1 66 1 = 1 | drive 1 67 1 = 2 | drive 1 0 1 = 0
            set 0 1 = 50 | drive 1 100 1 = 2 | drive 1 99 1 = 1 | drive 0 100 0 = 13
            """);
        s.run("7 gain", """
            site 0 1 = 0 | plug 0 40 0 = 0 | plug 0 3 1 = 1 | plug 0 150 2 = 2 | car 100 1 50 0 0 = 0 | car 10 1 150 2 0 = 1
            gain 0 0 -1 = -1 | gain 0 0 101 = -1 | gain 2 0 0 = -1 | gain -1 0 0 = -1 | gain 0 3 0 = -1 | gain 0 -1 0 = -1
            gain 0 0 0 = 40 | gain 0 2 0 = 50 | gain 0 1 0 = 3 | gain 0 0 79 = 21 | gain 0 0 80 = 20 | gain 0 0 81 = 19
            gain 0 1 79 = 3 | gain 0 1 80 = 1 | gain 0 1 94 = 1 | gain 0 1 95 = 1 | gain 0 1 99 = 1 | gain 0 1 100 = 0
            gain 0 0 94 = 6 | gain 0 0 95 = 5 | gain 0 0 100 = 0 | gain 1 2 0 = 10 | gain 1 2 8 = 2 | gain 1 2 10 = 0
            set 0 50 = 0 | gain 0 0 0 = 20 | gain 0 1 0 = 1 | gain 0 2 0 = 25 | gain 0 2 80 = 12 | gain 0 2 95 = 5
            set 0 1 = 50 | gain 0 0 0 = 39 | gain 0 1 0 = 2
            """);
        s.run("7 gain, half and quarter of large and small rates", """
            site 0 1 = 0 | plug 0 20 0 = 0 | plug 0 7 0 = 1 | car 200 1 150 0 0 = 0
            gain 0 0 159 = 20 | gain 0 0 160 = 10 | gain 0 0 189 = 10 | gain 0 0 190 = 5 | gain 0 1 159 = 7 | gain 0 1 160 = 3
            gain 0 1 189 = 3 | gain 0 1 190 = 1 | gain 0 0 196 = 4 | gain 0 1 199 = 1
            """);
        s.run("8 of", """
            site 0 9 = 0 | site 1 9 = 1 | plug 1 9 0 = 0 | car 50 1 4 0 10 = 0 | car 50 1 4 0 10 = 1
            of -1 0 = -1 | of 2 0 = -1 | of 0 8 = -1 | of 0 -1 = -1 | of 0 2 = 0
            come 0 1 13 2 = 0 | come 1 1 20 0 = 1 | of 0 1 = 101 | of 0 2 = 13 | of 0 7 = 0 | of 1 7 = 1
            ticks 1 = 3 | of 0 0 = 13 | of 0 1 = 200 | of 0 3 = 3 | of 0 4 = 0 | of 0 5 = 0 | of 0 6 = 30 | of 0 7 = -3
            of 1 1 = 101 | of 1 4 = 1 | of 1 7 = 0 | of 1 3 = 0 | ticks 2 = 0 | of 0 1 = 0 | of 0 5 = 2 | of 1 4 = 3
            ticks 1 = 4 | of 1 1 = 200 | of 0 2 = 13
            """);
        s.end("RoadTest");
    }
}
