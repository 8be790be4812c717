/** The edges that chapter 4 and promises 19 to 22 name: each run is for one sentence of the document, told by its name. */
public final class TriesEdgesTest {
    private static final String TWO = "site 0 9 = 0 | plug 0 1 0 = 0 | plug 0 1 0 = 1 | car 10 1 1 0 0 = 0 | car 10 1 1 0 0 = 1 | car 10 1 1 0 0 = 2\n";

    public static void main(String[] args) {
        Script s = new Script();
        says(s);
        tried(s);
        kept(s);
        broken(s);
        lies(s);
        s.end("TriesEdgesTest");
    }

    /** Rows of tries of one plug by one car; the first of them is the number-th that is kept. */
    private static String tries(int plug, int car, boolean failed, int times, int number) {
        StringBuilder rows = new StringBuilder();
        for (int i = 0; i < times; i++) {
            rows.append("tried ").append(plug).append(' ').append(car).append(' ').append(failed);
            rows.append(" = ").append(Math.min(60, number + i)).append(" | ");
        }
        return rows.append('\n').toString();
    }

    private static void says(Script s) {
        s.run("19 there is none such", """
            says 0 true = -1 | site 0 1 = 0 | plug 0 1 0 = 0 | says 1 true = -1 | says -1 true = -1 | says 1 false = -1 | says 2147483647 false = -1
            says -2147483648 false = -1 | says 0 true = 0
            """);
        s.run("19 1 if that is new, else 0", """
            site 0 1 = 0 | plug 0 1 0 = 0 | plug 0 1 0 = 1 | says 0 true = 0 | says 0 false = 1 | says 0 false = 0 | plugOf 0 5 = 0 | plugOf 1 5 = 1
            says 1 true = 0 | says 0 true = 1 | says 0 true = 0 | plugOf 0 5 = 1
            """);
        s.run("4 SAYS: 1 at first, also of the last PLUG", """
            site 0 1 = 0 | plug 0 1 0 = 0 | plug 0 1 0 = 1 | plug 0 1 0 = 2 | plug 0 1 0 = 3 | plug 0 1 0 = 4 | plug 0 1 0 = 5 | plug 0 1 0 = 6
            plug 0 1 0 = 7 | plug 0 1 0 = 8 | plug 0 1 0 = 9 | plug 0 1 0 = 10 | plug 0 1 0 = 11 | plug 0 1 0 = 12 | plug 0 1 0 = 13
            plug 0 1 0 = 14 | says 15 false = -1 | plug 0 1 0 = 15 | plugOf 15 5 = 1 | says 15 false = 1 | plugOf 15 5 = 0 | plugOf 14 5 = 1 | says 16 false = -1
            """);
        s.run("4 SAYS counts for nothing but LIES", """
            site 10 9 = 0 | plug 0 5 0 = 0 | car 50 10 5 0 1 = 0 | says 0 false = 1 | trip 0 0 20 10 = 1 | advice 1 0 10 = 0 | come 0 0 9 0 = 0 | ticks 1 = 5
            of 0 1 = 200 | plugOf 0 4 = 0
            """);
    }

    private static void tried(Script s) {
        s.run("20 there is no such PLUG", """
            car 10 1 1 0 0 = 0 | tried 0 0 true = -1 | site 0 1 = 0 | plug 0 1 0 = 0 | tried 1 0 true = -1 | tried -1 0 true = -1 | tried 2147483647 0 true = -1
            tried -2147483648 0 false = -1 | many 6 = 0 | tried 0 0 true = 1
            """);
        s.run("20 there is no such CAR", """
            site 0 1 = 0 | plug 0 1 0 = 0 | tried 0 0 true = -1 | car 10 1 1 0 0 = 0 | tried 0 1 true = -1 | tried 0 -1 true = -1 | tried 0 2147483647 true = -1
            tried 0 -2147483648 false = -1 | many 6 = 0 | tried 0 0 false = 1
            """);
        s.run("20 NOW", TWO + "tried 0 0 true = 1 | ticks 1 = 0 | tried 0 0 true = 2 | ticks 100 = 0 | tried 0 0 true = 3 | tryOf 0 2 = 0 | tryOf 1 2 = 1 | tryOf 2 2 = 101");
        s.run("20 of a CAR and a PLUG of any CABLE and place", """
            site 0 9 = 0 | plug 0 1 2 = 0 | car 10 1 1 0 0 = 0 | come 0 0 5 0 = 0 | tried 0 0 true = 1 | of 0 1 = 100 | of 0 7 = 0 | plugOf 0 3 = -3 | plugOf 0 6 = 1
            """);
    }

    private static void kept(Script s) {
        s.run("21 another what, ahead of NONE", TWO + """
            tryOf 0 -1 = -1 | tryOf 0 4 = -1 | tryOf -1 4 = -1 | tryOf 0 0 = -3 | tried 0 0 true = 1 | tryOf 0 -1 = -1 | tryOf 0 4 = -1 | tryOf 0 2147483647 = -1
            tryOf 0 -2147483648 = -1 | tryOf 0 3 = 1
            """);
        s.run("21 NONE: there is none such", TWO + """
            tryOf 0 0 = -3 | tried 1 2 false = 1 | tryOf 0 0 = 1 | tryOf 1 0 = -3 | tryOf -1 0 = -3 | tryOf 60 0 = -3 | tryOf 2147483647 0 = -3
            tryOf -2147483648 0 = -3 | tried 0 1 true = 2 | tryOf 1 0 = 0 | tryOf 2 0 = -3
            """);
        s.run("21 from the oldest: PLUG, CAR, TICK, whether it failed", TWO + """
            tried 1 2 false = 1 | ticks 3 = 0 | tried 0 1 true = 2 | tryOf 0 0 = 1 | tryOf 0 1 = 2 | tryOf 0 2 = 0 | tryOf 0 3 = 0
            tryOf 1 0 = 0 | tryOf 1 1 = 1 | tryOf 1 2 = 3 | tryOf 1 3 = 1
            """);
        s.run("4 TRIES are kept, 60 at most: the sixtieth", TWO + tries(0, 1, true, 1, 1) + tries(1, 0, false, 58, 2) + """
            many 6 = 59 | tried 1 2 true = 60 | many 6 = 60 | tryOf 0 0 = 0 | tryOf 59 1 = 2 | tryOf 60 0 = -3 | plugOf 0 6 = 1 | plugOf 1 6 = 59
            """);
        s.run("4 TRIES are kept, 60 at most, the latest ones: the next drives out the oldest", TWO + tries(0, 1, true, 1, 1) + tries(1, 0, false, 59, 2) + """
            tryOf 0 0 = 0 | tried 1 2 true = 60 | many 6 = 60 | tryOf 0 0 = 1 | tryOf 59 1 = 2 | tryOf 59 3 = 1 | tryOf 60 0 = -3 | plugOf 0 6 = 0 | plugOf 1 6 = 60
            """);
        s.run("4 the latest ones: when all have been driven out twice", TWO + tries(0, 0, true, 60, 1) + tries(1, 1, false, 60, 60) + "ticks 5 = 0 | " + tries(0, 2, true, 60, 60) + """
            many 6 = 60 | tryOf 0 0 = 0 | tryOf 0 1 = 2 | tryOf 0 2 = 5 | tryOf 0 3 = 1 | tryOf 59 1 = 2 | plugOf 0 6 = 60 | plugOf 1 6 = 0 | plugOf 0 4 = 0
            tried 1 0 false = 60 | tryOf 59 0 = 1 | tryOf 58 0 = 0 | tryOf 0 0 = 0 | plugOf 0 6 = 59
            """);
        s.run("4 TRIES of TICKS drive out the oldest too", TWO + tries(1, 2, true, 60, 1) + """
            come 0 0 5 0 = 0 | ticks 1 = 1 | many 6 = 60 | tryOf 59 0 = 0 | tryOf 59 1 = 0 | tryOf 59 3 = 0 | plugOf 1 6 = 59 | plugOf 0 6 = 1
            """);
        s.run("18 how many TRIES of it are kept", TWO + "plugOf 0 6 = 0 | tried 0 0 true = 1 | plugOf 0 6 = 1 | plugOf 1 6 = 0 | tried 1 0 true = 2 | tried 0 0 false = 3 | plugOf 0 6 = 2 | plugOf 1 6 = 1");
    }

    private static void broken(Script s) {
        s.run("4 BROKEN: no TRY is kept", TWO + "plugOf 0 4 = 0 | plugOf 1 4 = 0 | fail 0 true = 1 | plugOf 0 4 = 0");
        s.run("4 BROKEN: there are two CARS or more", TWO + """
            tried 0 0 true = 1 | plugOf 0 4 = 0 | tried 0 0 true = 2 | plugOf 0 4 = 0 | tried 0 0 true = 3 | plugOf 0 4 = 0 | tried 0 1 true = 4 | plugOf 0 4 = 1
            tried 0 2 true = 5 | plugOf 0 4 = 1 | plugOf 1 4 = 0
            """);
        s.run("4 BROKEN: the latest one failed", TWO + """
            tried 0 0 true = 1 | tried 0 1 true = 2 | plugOf 0 4 = 1 | tried 0 2 false = 3 | plugOf 0 4 = 0 | tried 0 2 true = 4 | plugOf 0 4 = 0
            """);
        s.run("4 BROKEN: going back as long as they failed", TWO + """
            tried 0 0 true = 1 | tried 0 1 false = 2 | tried 0 1 true = 3 | plugOf 0 4 = 0 | tried 0 1 true = 4 | plugOf 0 4 = 0 | tried 0 0 true = 5 | plugOf 0 4 = 1
            """);
        s.run("4 BROKEN: of the TRIES of it: those of another PLUG don't matter", TWO + """
            tried 0 0 true = 1 | tried 1 1 true = 2 | plugOf 0 4 = 0 | plugOf 1 4 = 0 | tried 1 2 false = 3 | tried 0 1 true = 4 | plugOf 0 4 = 1 | plugOf 1 4 = 0
            """);
        s.run("4 BROKEN: of the TRIES that are kept: a failed one is driven out", TWO + "tried 0 0 true = 1 | tried 0 1 true = 2\n" + tries(1, 0, false, 58, 3) + """
            plugOf 0 4 = 1 | lies = 1 | tried 1 0 false = 60 | plugOf 0 6 = 1 | plugOf 0 4 = 0 | lies = 0 | tried 1 0 false = 60 | plugOf 0 6 = 0 | plugOf 0 4 = 0
            """);
        s.run("4 BROKEN: of the TRIES that are kept: sixty failed ones of one CAR ahead of another", TWO + tries(0, 0, true, 60, 1) + """
            plugOf 0 4 = 0 | tried 0 1 true = 60 | plugOf 0 4 = 1
            """);
        s.run("4 BROKEN: of CARS with the first and the last number", """
            site 0 9 = 0 | plug 0 1 0 = 0 | car 10 1 1 0 0 = 0 | car 10 1 1 0 0 = 1 | car 10 1 1 0 0 = 2 | car 10 1 1 0 0 = 3 | car 10 1 1 0 0 = 4 | car 10 1 1 0 0 = 5
            car 10 1 1 0 0 = 6 | car 10 1 1 0 0 = 7 | car 10 1 1 0 0 = 8 | car 10 1 1 0 0 = 9 | car 10 1 1 0 0 = 10 | tried 0 11 true = -1 | car 10 1 1 0 0 = 11
            tried 0 11 true = 1 | plugOf 0 4 = 0 | tried 0 12 true = -1 | tried 0 0 true = 2 | plugOf 0 4 = 1
            """);
        s.run("4 BROKEN by failed TRIES of TICKS alone", """
            site 0 9 = 0 | plug 0 1 0 = 0 | car 10 1 1 0 0 = 0 | car 10 1 1 0 0 = 1 | fail 0 true = 1 | come 0 0 5 0 = 0 | come 1 0 5 0 = 1 | ticks 1 = 0
            plugOf 0 4 = 0 | ticks 1 = 0 | plugOf 0 4 = 1 | plugOf 0 6 = 2 | ticks 5 = 0 | plugOf 0 6 = 2
            """);
        s.run("4 a PLUG that is BROKEN beyond doubt takes a CAR in a TICK all the same", """
            site 0 9 = 0 | plug 0 1 0 = 0 | car 10 1 1 0 0 = 0 | car 10 1 1 0 0 = 1 | tried 0 0 true = 1 | tried 0 1 true = 2 | plugOf 0 4 = 1 | come 0 0 5 0 = 0
            ticks 1 = 1 | of 0 1 = 200 | plugOf 0 4 = 0
            """);
    }

    private static void lies(Script s) {
        s.run("22 no PLUGS, no TRIES", "lies = 0 | site 0 1 = 0 | plug 0 1 0 = 0 | lies = 0 | says 0 false = 1 | lies = 0");
        s.run("4 LIES: BROKEN beyond doubt and SAY they work", TWO + """
            tried 0 0 true = 1 | lies = 0 | tried 0 1 true = 2 | lies = 1 | says 0 false = 1 | lies = 0 | says 0 true = 1 | lies = 1 | tried 0 1 false = 3 | lies = 0
            """);
        s.run("4 LIES: whose latest TRY went well and that SAY they don't", TWO + """
            tried 1 0 false = 1 | lies = 0 | says 1 false = 1 | lies = 2 | tried 1 0 true = 2 | lies = 0 | tried 1 0 false = 3 | lies = 2 | tried 0 0 true = 4 | lies = 2
            says 1 true = 1 | lies = 0
            """);
        s.run("4 LIES: the latest TRY that went well is driven out", TWO + "tried 0 0 false = 1 | says 0 false = 1\n" + tries(1, 0, true, 59, 2) + "lies = 1 | tried 1 0 true = 60 | lies = 0");
        s.run("22 as bits by PLUGS: the first and the last", """
            site 0 1 = 0 | plug 0 1 0 = 0 | plug 0 1 0 = 1 | plug 0 1 0 = 2 | plug 0 1 0 = 3 | plug 0 1 0 = 4 | plug 0 1 0 = 5 | plug 0 1 0 = 6
            plug 0 1 0 = 7 | plug 0 1 0 = 8 | plug 0 1 0 = 9 | plug 0 1 0 = 10 | plug 0 1 0 = 11 | plug 0 1 0 = 12 | plug 0 1 0 = 13
            plug 0 1 0 = 14 | plug 0 1 0 = 15 | car 10 1 1 0 0 = 0 | car 10 1 1 0 0 = 1 | tried 15 0 true = 1 | tried 15 1 true = 2 | lies = 32768
            tried 0 0 false = 3 | says 0 false = 1 | lies = 32769 | tried 7 0 false = 4 | says 7 false = 1 | lies = 32897
            """);
    }
}
