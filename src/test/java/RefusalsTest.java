import java.util.List;

/**
 * "REFUSALS .. change nothing (but that THE TAPE is used up)": each refused call on an object in which all there may be
 * is there, full or on the way; what follows is looked at by Twins. And calls that only ask change nothing either.
 */
public final class RefusalsTest {
    /**
     * Site 0: car 0 is idle at plug 0 since two ticks, car 2 charges at plug 2, car 1 tried plug 1 (it failed, but does no more) and car 3
     * waits behind. Site 1: car 5 charges slowly. Site 5: car 6 is in a queue for which there is no plug. Car 4 is away, others too.
     */
    private static final String BUSY = """
        site 10 9 | site 20 9 | site 30 9 | site 40 9 | site 50 9 | site 60 9 | set 0 5 | set 1 3 | set 10 7 | set 11 8 | set 33 9 | set 40 4 | set 45 6
        plug 0 4 0 | plug 0 4 1 | plug 0 4 2 | plug 1 3 0 | plug 2 9 0 | plug 2 9 0 | plug 3 9 0 | plug 3 9 1 | plug 3 9 2 | plug 4 9 0 | plug 4 9 0
        plug 4 9 1 | plug 4 9 2 | plug 4 9 0 | plug 4 9 1 | plug 4 9 2
        car 50 10 9 0 20 | car 50 10 9 1 20 | car 50 10 9 2 5 | car 50 10 9 2 20 | car 50 10 9 0 20 | car 200 10 9 0 20 | car 50 10 9 2 20 | car 50 10 9 0 9
        car 50 10 9 0 10 | car 50 10 9 0 11 | car 50 10 9 0 12 | car 50 10 9 0 13
        tape share first;cap 90;idle 4 after 1;
        read 0
        tape cap 50;
        read 1
        fail 1 true | says 3 false | tried 3 4 false | tried 4 0 true | tried 4 1 true | tried 5 0 true
        line false 0 5 50 | line false 1 5 50 | line false 2 5 50 | line false 3 5 50 | line false 4 5 50 | line false 5 5 50 | line false 6 5 50
        line true 0 5 51 | line true 1 5 52 | line true 2 5 53 | line true 3 5 54 | line true 4 5 50 | line true 5 5 50 | line true 6 5 50
        keep
        come 0 0 20 4 | come 1 0 30 2 | come 2 0 40 1 | come 3 0 40 1 | come 5 1 90 3 | come 6 5 30 0 | ticks 2 | fail 1 false
        """ + "tape share first;cap 1;idle 100 after 100" + " ".repeat(60) + "|\n";
    /** The same with three ticks left, in which car 5 will charge. */
    private static final String LATE = BUSY + "ticks 95 | " + "ticks 100 | ".repeat(19) + "come 5 1 200 3";
    private static final String[] REFUSED = {
        "site -1 1 = -1", "site 1000 1 = -1", "site 70 0 = -1", "site 70 301 = -1", "site 60 1 = -4", "site 5 300 = -4", "site 61 8 = -2", "site 999 300 = -2",
        "plug -1 1 0 = -1", "plug 6 1 0 = -1", "plug 0 0 0 = -1", "plug 0 151 0 = -1", "plug 0 1 -1 = -1", "plug 0 1 3 = -1", "plug 0 150 0 = -2",
        "plug 5 9 2 = -2", "car 9 1 1 0 0 = -1", "car 201 1 1 0 0 = -1", "car 10 0 1 0 0 = -1", "car 10 41 1 0 0 = -1", "car 10 1 0 0 0 = -1",
        "car 10 1 151 0 0 = -1", "car 10 1 1 -1 0 = -1", "car 10 1 1 3 0 = -1", "car 10 1 1 0 -1 = -1", "car 10 1 1 0 11 = -1", "car 100 1 1 2 99 = -2",
        "set 0 -1 = -1", "set 0 51 = -1", "set 1 -1 = -1", "set 1 21 = -1", "set 2 1 = -1", "set 9 1 = -1", "set 10 -1 = -1", "set 10 100 = -1", "set 33 100 = -1",
        "set 34 1 = -1", "set 39 1 = -1", "set 40 -1 = -1", "set 40 100 = -1", "set 45 100 = -1", "set 46 1 = -1", "set -1 1 = -1",
        "feed 7 0 = -1", "feed 7 9 = -1", "feed 7 5 = -2", "feed 7 8 = -2", "read -1 = -1", "read 6 = -1", "read 0 = -196",
        "come -1 0 20 0 = -1", "come 12 0 20 0 = -1", "come 4 -1 20 0 = -1", "come 4 6 20 0 = -1", "come 4 0 19 0 = -1", "come 4 0 51 0 = -1", "come 4 0 20 -1 = -1",
        "come 4 0 20 51 = -1", "come 0 0 20 50 = -4", "come 0 0 50 0 = -4", "come 0 1 30 0 = -4", "come 1 0 30 2 = -4", "come 1 1 50 9 = -4", "come 2 0 50 0 = -4",
        "come 3 0 20 0 = -4", "come 5 1 200 0 = -4", "come 6 5 30 50 = -4", "come 6 0 50 0 = -4", "come 0 0 19 0 = -1", "come 5 1 201 0 = -1",
        "leave -1 = -1", "leave 12 = -1", "leave 4 = -4", "leave 11 = -4", "go -1 1 = -1", "go 12 1 = -1", "go 4 0 = -1", "go 4 1000 = -1", "go 0 1 = -4", "go 1 1 = -4",
        "go 6 999 = -4", "go 4 999 = -3", "go 4 191 = -3", "fail -1 true = -1", "fail 16 true = -1", "fail 16 false = -1", "ticks 0 = -1", "ticks 101 = -1",
        "ticks -1 = -1", "says -1 false = -1", "says 16 true = -1", "tried -1 0 true = -1", "tried 16 0 true = -1", "tried 0 -1 true = -1", "tried 0 12 false = -1",
        "line false -1 5 5 = -1", "line true 12 5 5 = -1", "line false 0 -1 5 = -1", "line true 0 2001 5 = -1", "line false 0 5 -1 = -1", "line true 0 5 201 = -1",
        "line false 0 5 53 = -2", "line true 0 5 50 = -2",
    };
    private static final String[] ASKED = {
        "drive 0 99 1", "drive 0 1000 0", "gain 0 0 3", "gain 0 0 51", "of 0 0", "of 1 7", "of 0 8", "trip 4 0 200 0", "trip 4 0 999 12", "trip 4 0 999 16", "trip 0 0 300 2",
        "siteOf 0 6", "siteOf 6 0", "plugOf 0 4", "plugOf 16 0", "tryOf 0 0", "tryOf 60 0", "tryOf 0 4", "lies", "advice 12 0 0", "advice 12 0 1", "advice 12 10 35",
        "advice 13 0 0", "joined 0", "joined 1", "joined 13", "joined 17", "many 4", "many 11", "many 12",
    };

    public static void main(String[] args) {
        Script s = new Script();
        for (String refused : REFUSED) {
            refuse(s, "", BUSY, refused);
        }
        for (String refused : new String[] {"ticks 4 = -4", "ticks 100 = -4", "ticks 101 = -1", "come 5 1 200 0 = -4", "leave 4 = -4"}) {
            refuse(s, "late: ", LATE, refused);
        }
        for (String refused : new String[] {"back = -3", "read 0 = -1", "plug 0 1 0 = -1", "set 40 0 = -1", "leave 0 = -1", "feed 0 9 = -1"}) {
            refuse(s, "new: ", "feed 32 3", refused);
        }
        refuse(s, "nothing kept: ", BUSY.replace("keep", "lies"), "back = -3");
        for (String asked : ASKED) {
            Row row = Row.rowOf(asked);
            String difference = Twins.difference(Row.rowsOf(BUSY), row);
            s.due(asked + " changed '" + difference + "'", difference.isEmpty() ? 1 : 0, 1);
        }
        s.end("RefusalsTest");
    }

    private static void refuse(Script s, String name, String script, String refused) {
        List<Row> before = Row.rowsOf(script);
        Row row = Row.rowOf(refused);
        RoadPlugs plugs = new RoadPlugs();
        before.forEach(ahead -> ahead.on(plugs));
        s.due(name + refused, row.on(plugs), row.due());
        String difference = Twins.difference(before, row);
        s.due(name + refused + " changed '" + difference + "'", difference.isEmpty() ? 1 : 0, 1);
    }
}
