/** Promises 19 to 22: says, tried, tryOf, lies. */
public final class TriesTest {
    public static void main(String[] args) {
        Script s = new Script();
        s.run("19 says", """
            says 0 true = -1 | site 0 1 = 0 | plug 0 1 0 = 0 | plug 0 1 0 = 1 | says -1 true = -1 | says 2 true = -1
            says 0 true = 0 | says 0 false = 1 | says 0 false = 0 | plugOf 0 5 = 0 | plugOf 1 5 = 1 | says 0 true = 1
            plugOf 0 5 = 1
            """);
        s.run("20 tried", """
            site 0 1 = 0 | plug 0 1 0 = 0 | tried 0 0 true = -1 | car 10 1 1 1 0 = 0 | tried 1 0 true = -1 | tried -1 0 true = -1
            tried 0 -1 true = -1 | tried 0 1 true = -1 | many 6 = 0 | tried 0 0 true = 1 | ticks 3 = 0 | tried 0 0 false = 2
            many 6 = 2 | plugOf 0 6 = 2
            """);
        s.run("20 tried by hand does not keep a car from a plug", """
            site 0 9 = 0 | plug 0 1 0 = 0 | car 10 1 1 0 0 = 0 | come 0 0 5 0 = 0 | tried 0 0 true = 1 | ticks 1 = 1 | of 0 1 = 200
            """);
        s.run("21 tryOf", """
            site 0 1 = 0 | plug 0 1 0 = 0 | plug 0 1 0 = 1 | car 10 1 1 1 0 = 0 | car 10 1 1 1 0 = 1
            tryOf 0 0 = -3 | tryOf 0 4 = -1 | tryOf 0 -1 = -1 | tried 1 0 true = 1 | ticks 7 = 0 | tried 0 1 false = 2
            tryOf 0 0 = 1 | tryOf 0 1 = 0 | tryOf 0 2 = 0 | tryOf 0 3 = 1
            tryOf 1 0 = 0 | tryOf 1 1 = 1 | tryOf 1 2 = 7 | tryOf 1 3 = 0
            tryOf 2 0 = -3 | tryOf -1 0 = -3 | tryOf 2 4 = -1 | tryOf -2147483648 0 = -3 | tryOf 2147483647 3 = -3
            """);
        s.run("4 broken beyond doubt", """
            site 0 1 = 0 | plug 0 1 0 = 0 | plug 0 1 0 = 1 | car 10 1 1 0 0 = 0 | car 10 1 1 0 0 = 1 | car 10 1 1 0 0 = 2
            tried 0 0 true = 1 | tried 0 0 true = 2 | plugOf 0 4 = 0 | tried 1 1 true = 3 | plugOf 0 4 = 0 | plugOf 1 4 = 0
            tried 0 1 true = 4 | plugOf 0 4 = 1 | tried 0 0 true = 5 | plugOf 0 4 = 1 | tried 0 2 false = 6 | plugOf 0 4 = 0
            tried 0 2 true = 7 | plugOf 0 4 = 0 | tried 0 2 true = 8 | plugOf 0 4 = 0 | tried 1 0 false = 9
            tried 0 0 true = 10 | plugOf 0 4 = 1 | plugOf 1 4 = 0 | plugOf 0 6 = 8 | plugOf 1 6 = 2
            """);
        s.run("22 lies", """
            site 0 1 = 0 | plug 0 1 0 = 0 | plug 0 1 0 = 1 | plug 0 1 0 = 2 | car 10 1 1 0 0 = 0 | car 10 1 1 0 0 = 1
            says 1 false = 1 | lies = 0 | tried 0 0 true = 1 | tried 0 1 true = 2 | lies = 1
            tried 1 0 false = 3 | lies = 3 | says 0 false = 1 | lies = 2 | says 1 true = 1 | lies = 0
            tried 2 0 false = 4 | lies = 0 | says 2 false = 1 | lies = 4 | tried 2 0 true = 5 | lies = 0
            says 2 true = 1 | tried 2 1 true = 6 | lies = 4 | says 0 true = 1 | lies = 5
            """);
        sixty(s);
        s.end("TriesTest");
    }

    /** Of 61 tries and more the oldest go, and with them what they told. */
    private static void sixty(Script s) {
        RoadPlugs plugs = new RoadPlugs();
        plugs.site(0, 1);
        plugs.plug(0, 1, 0);
        plugs.plug(0, 1, 0);
        for (int c = 0; c < 12; c++) {
            plugs.car(10, 1, 1, 0, 0);
        }
        plugs.tried(0, 3, true);
        plugs.tried(0, 4, true);
        s.due("broken", plugs.plugOf(0, 4), 1);
        for (int i = 2; i < 60; i++) {
            plugs.ticks(1);
            s.due("kept", plugs.tried(1, i % 12, i % 2 == 0), i + 1);
        }
        s.due("broken with 60 kept", plugs.plugOf(0, 4), 1);
        s.due("the oldest", plugs.tryOf(0, 1), 3);
        s.due("61", plugs.tried(1, 5, false), 60);
        s.due("the oldest is gone", plugs.tryOf(0, 1), 4);
        s.due("not broken now", plugs.plugOf(0, 4), 0);
        s.due("one of it is kept", plugs.plugOf(0, 6), 1);
        s.due("many", plugs.many(6), 60);
        for (int i = 0; i < 200; i++) {
            s.due("kept", plugs.tried(i % 2, i % 12, i % 3 == 0), 60);
        }
        for (int k = 0; k < 60; k++) {
            int i = 140 + k;
            s.due("plug of " + k, plugs.tryOf(k, 0), i % 2);
            s.due("car of " + k, plugs.tryOf(k, 1), i % 12);
            s.due("tick of " + k, plugs.tryOf(k, 2), 58);
            s.due("failure of " + k, plugs.tryOf(k, 3), i % 3 == 0 ? 1 : 0);
        }
        s.due("none behind them", plugs.tryOf(60, 0), -3);
    }
}
