/** Promises 28 and 29: keep, back. */
public final class KeepTest {
    public static void main(String[] args) {
        Script s = new Script();
        s.run("29 back, nothing is kept", """
            back = -3 | site 0 1 = 0 | back = -3 | many 1 = 1 | keep = 1 | back = 1 | many 1 = 1
            """);
        s.run("28, 29 all but the tape", """
            site 5 50 = 0 | plug 0 5 0 = 0 | plug 0 5 0 = 1 | car 50 10 9 0 10 = 0 | car 50 10 9 0 10 = 1 | car 50 10 9 0 10 = 2
            set 0 0 = 0 | set 1 4 = 0 | set 10 3 = 10 | set 40 8 = 0 | fail 1 true = 1 | says 1 false = 1
            tape share first;cap 90;idle 4 after 0;
            read 0 = 3 | come 0 0 12 50 = 0 | come 1 0 50 0 = 1 | come 2 0 50 0 = 2 | ticks 2 = 2 | line false 1 1 1 = 0
            line true 1 1 2 = 0 | line true 1 1 1 = 1 | tried 0 1 true = 4 | feed 99 1 = 1
            keep = 1 | feed 99 2 = 3
            site 9 1 = 1 | plug 1 1 0 = 2 | car 10 1 1 0 0 = 3 | set 0 9 = 0 | set 1 0 = 4 | set 10 9 = 3 | set 40 9 = 8
            fail 1 false = 1 | fail 0 true = 1 | says 1 true = 1 | says 0 false = 1 | leave 0 = 200 | go 0 50 = 6 | leave 1 = 100
            ticks 9 = 0 | clear = 3 | tried 1 0 false = 6
            read 0 = -100
            tape cap 7;
            read 0 = 1
            feed 99 5 = 5
            back = 1
            many 0 = 2 | many 1 = 1 | many 2 = 2 | many 3 = 3 | many 4 = 2 | many 5 = 1 | many 6 = 4 | many 7 = 1 | many 8 = 2
            many 9 = 5 | many 10 = 2 | many 11 = 10
            siteOf 0 2 = 1 | siteOf 0 3 = 90 | siteOf 0 4 = 4 | siteOf 0 5 = 0 | siteOf 0 6 = 2 | siteOf 0 7 = 8 | siteOf 0 8 = 2
            siteOf 0 0 = 5 | siteOf 0 1 = 50 | plugOf 0 0 = 0 | plugOf 1 1 = 5 | plugOf 1 2 = 0 | drive 0 100 1 = 10 | gain 0 1 0 = 5
            siteOf 1 0 = -1 | plugOf 2 0 = -1 | of 3 0 = -1 | set 0 0 = 0 | set 1 4 = 4 | set 10 3 = 3
            plugOf 0 3 = 0 | plugOf 0 5 = 1 | plugOf 1 5 = 0 | plugOf 0 6 = 2 | plugOf 1 6 = 2 | joined 0 = 1 | joined 10 = 1
            tryOf 0 0 = 1 | tryOf 0 1 = 1 | tryOf 1 0 = 0 | tryOf 3 2 = 2 | tryOf 3 3 = 1 | tryOf 4 0 = -3
            of 0 0 = 12 | of 0 1 = 200 | of 0 2 = 12 | of 0 3 = 2 | of 0 5 = 1 | of 0 6 = 10 | of 1 1 = 100 | of 2 1 = 100
            of 1 4 = 2 | of 2 7 = 0 | of 1 7 = 1 | fail 1 true = 0 | fail 0 false = 0
            """);
        s.run("29 back, what was kept stays, and the latest counts", """
            site 0 1 = 0 | keep = 1 | site 1 1 = 1 | keep = 1 | site 2 1 = 2 | back = 1 | many 1 = 2 | site 3 7 = 2 | back = 1
            many 1 = 2 | site 4 8 = 2 | siteOf 2 0 = 4 | siteOf 2 1 = 8 | back = 1 | back = 1 | many 1 = 2
            """);
        s.run("29 back, things made anew are new", """
            keep = 1 | site 0 99 = 0 | plug 0 5 0 = 0 | plug 0 5 0 = 1 | car 50 1 5 0 0 = 0 | car 50 1 5 0 0 = 1 | set 40 7 = 0
            tape share first;cap 1;idle 2 after 3;
            read 0 = 3 | fail 1 true = 1 | says 0 false = 1 | come 0 0 50 9 = 0 | come 1 0 50 9 = 1 | ticks 3 = 15
            back = 1 | site 4 9 = 0 | plug 0 2 0 = 0 | plug 0 2 0 = 1 | car 20 1 2 0 3 = 0 | car 20 1 2 0 3 = 1
            siteOf 0 2 = 0 | siteOf 0 3 = 100 | siteOf 0 4 = 0 | siteOf 0 5 = 100 | siteOf 0 6 = 0 | siteOf 0 7 = 0 | siteOf 0 8 = 0
            plugOf 0 3 = -3 | plugOf 0 5 = 1 | plugOf 1 6 = 0 | of 0 0 = 3 | of 0 1 = 0 | of 0 2 = 0 | of 0 3 = 0 | of 0 4 = 0
            of 0 5 = 0 | of 0 6 = 0 | come 0 0 20 0 = 0 | come 1 0 20 0 = 1 | ticks 1 = 4 | of 0 1 = 200 | of 1 1 = 201
            """);
        s.run("28 keep: tries since it came, and who came first to a plug", """
            site 0 6 = 0 | plug 0 5 0 = 0 | plug 0 5 0 = 1 | car 50 1 5 0 0 = 0 | car 50 1 5 0 0 = 1 | car 50 1 5 0 0 = 2
            tape share first;
            read 0 = 1 | come 0 0 50 0 = 0 | ticks 1 = 5 | come 1 0 50 0 = 0 | ticks 1 = 6 | leave 0 = 200 | come 2 0 50 0 = 0
            ticks 1 = 6 | of 1 0 = 6 | of 2 0 = 1 | keep = 1 | leave 1 = 201 | leave 2 = 200 | come 2 0 50 0 = 0 | ticks 4 = 20
            back = 1 | ticks 1 = 6 | of 1 0 = 11 | of 2 0 = 2
            """);
        keptRing(s);
        s.end("KeepTest");
    }

    /** With sixty tries kept each new one drives out an old one, which back() brings back. */
    private static void keptRing(Script s) {
        RoadPlugs plugs = new RoadPlugs();
        plugs.site(0, 1);
        for (int i = 0; i < 5; i++) {
            plugs.plug(0, 1, 0);
            plugs.car(10, 1, 1, 0, 0);
        }
        for (int i = 0; i < 67; i++) {
            plugs.tried(i % 5, i % 3, i % 2 == 0);
            plugs.ticks(1);
        }
        plugs.keep();
        for (int i = 0; i < 40; i++) {
            plugs.tried(4 - i % 5, 3 + i % 2, i % 2 == 0);
        }
        plugs.back();
        s.due("kept tries", plugs.many(6), 60);
        for (int k = 0; k < 60; k++) {
            int i = 7 + k;
            s.due("plug of try " + k, plugs.tryOf(k, 0), i % 5);
            s.due("car of try " + k, plugs.tryOf(k, 1), i % 3);
            s.due("tick of try " + k, plugs.tryOf(k, 2), i);
            s.due("failure of try " + k, plugs.tryOf(k, 3), i % 2 == 0 ? 1 : 0);
        }
        s.due("one more", plugs.tried(0, 4, true), 60);
        s.due("the oldest then", plugs.tryOf(0, 2), 8);
    }
}
