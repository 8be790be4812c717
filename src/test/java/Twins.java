import java.util.ArrayList;
import java.util.List;

/**
 * A refused call changes nothing: of two objects with the same calls one has the refused call too, and whatever
 * follows, both answer alike. A refused read uses up the tape, so its twin was not fed since the last read.
 */
final class Twins {
    /** So many looks at an object, so that it stays below 512 calls. */
    private static final int LOOKS = 100;
    private static final String[] AFTERWARDS = {"", "ticks 1", "ticks 4", "back", "back | ticks 3", "site 999 5 | plug 0 4 0 | ticks 2"};

    private Twins() {
    }

    /** What differs, or an empty text. */
    static String difference(List<Row> before, Row call) {
        List<Row> spared = call.call().equals("read") ? withoutTape(before) : before;
        List<String> looks = looksAt(objectAfter(before));
        for (String afterwards : AFTERWARDS) {
            List<Row> then = Row.rowsOf(afterwards);
            for (int from = 0; from < looks.size(); from += LOOKS) {
                RoadPlugs one = objectAfter(before);
                RoadPlugs other = objectAfter(spared);
                call.on(one);
                then.forEach(row -> row.on(one));
                then.forEach(row -> row.on(other));
                for (String look : looks.subList(from, Math.min(looks.size(), from + LOOKS))) {
                    Row row = Row.rowOf(look);
                    if (row.on(one) != row.on(other)) {
                        return afterwards + " .. " + look;
                    }
                }
            }
        }
        return "";
    }

    private static RoadPlugs objectAfter(List<Row> rows) {
        RoadPlugs plugs = new RoadPlugs();
        rows.forEach(row -> row.on(plugs));
        return plugs;
    }

    private static List<Row> withoutTape(List<Row> before) {
        int lastRead = -1;
        List<Row> spared = new ArrayList<>();
        for (int i = 0; i < before.size(); i++) {
            lastRead = before.get(i).call().equals("read") ? i : lastRead;
        }
        for (int i = 0; i < before.size(); i++) {
            if (i <= lastRead || !before.get(i).call().equals("feed")) {
                spared.add(before.get(i));
            }
        }
        return spared;
    }

    /** Calls that show all there is; those that change something come last. */
    private static List<String> looksAt(RoadPlugs plugs) {
        int sites = plugs.many(1);
        int plugCount = plugs.many(2);
        int cars = plugs.many(3);
        List<String> looks = new ArrayList<>();
        each(looks, "many %2$d", 1, 12);
        each(looks, "siteOf %d %d", sites + 1, 9);
        each(looks, "plugOf %d %d", plugCount + 1, 7);
        each(looks, "of %d %d", cars + 1, 8);
        each(looks, "tryOf %d %d", plugs.many(6) + 1, 4);
        each(looks, "joined %2$d", 1, 2);
        each(looks, "joined 1%2$d", 1, plugs.many(7));
        each(looks, "trip %d 0 400 %d", cars, 3);
        each(looks, "gain %d %d 0", cars, Math.min(plugCount, 3));
        each(looks, "gain %d %d 45", cars, Math.min(plugCount, 1));
        each(looks, "gain %d %d 199", cars, Math.min(plugCount, 1));
        each(looks, "drive %d 99%d 1", cars, 1);
        each(looks, "advice " + cars + " 0 %2$d", 1, 2);
        each(looks, "advice " + cars + " 0 3%2$d", 1, Math.min(cars, 10));
        looks.add("lies");
        each(looks, "set %2$d 0", 1, 34);
        each(looks, "fail %d true", plugCount, 1);
        each(looks, "says %d true", plugCount, 1);
        each(looks, "come %d 0 10 0", cars, 1);
        looks.addAll(List.of("feed 0 1", "line false 0 0 0", "line true 0 0 0", "car 10 1 1 0 0", "plug 0 1 0", "site 999 1", "back"));
        each(looks, "many %2$d", 1, 12);
        return looks;
    }

    private static void each(List<String> looks, String form, int numbers, int whats) {
        for (int i = 0; i < numbers; i++) {
            for (int what = 0; what < whats; what++) {
                looks.add(String.format(form, i, what));
            }
        }
    }
}
