import java.util.HashSet;
import java.util.List;
import java.util.Set;

/**
 * Runs scripts of calls (see Row), each on a new object. Of each call that is refused, and of each that only asks,
 * it also looks whether something has changed (see Twins).
 */
final class Script {
    /** An object is used for so many calls at most. */
    static final int MOST_CALLS = 512;
    private static final Set<String> CHANGES = Set.of(
            "site", "plug", "car", "set", "feed", "read", "come", "leave", "go", "fail", "ticks", "says", "tried", "line", "clear",
            "keep", "back");

    private int wrong = 0;
    private int rows = 0;
    private int runs = 0;

    void run(String name, String script) {
        List<Row> all = Row.rowsOf(script);
        RoadPlugs plugs = new RoadPlugs();
        Set<String> asked = new HashSet<>();
        runs++;
        due(name + ": an object has at most 512 calls", all.size() <= MOST_CALLS ? 1 : 0, 1);
        for (int i = 0; i < all.size(); i++) {
            Row row = all.get(i);
            due(name + ": " + row.text(), row.on(plugs), row.due());
            boolean changes = CHANGES.contains(row.call());
            // One question of a kind is enough; each refusal counts for itself.
            if (changes ? row.due() < 0 : asked.add(row.call())) {
                String difference = Twins.difference(all.subList(0, i), row);
                due(name + ": " + row.text() + " changed '" + difference + "'", difference.isEmpty() ? 1 : 0, 1);
            }
        }
    }

    void due(String what, long got, long want) {
        rows++;
        if (got != want) {
            wrong++;
            System.out.println(what + " answered " + got + ", due is " + want);
        }
    }

    void end(String test) {
        System.out.println(test + ": " + runs + " runs, " + rows + " answers, " + wrong + " of them wrong");
        if (wrong != 0 || rows == 0) {
            System.exit(1);
        }
    }

    static void feedText(RoadPlugs plugs, String text) {
        for (int from = 0; from < text.length(); from += 8) {
            int n = Math.min(8, text.length() - from);
            if (plugs.feed(Row.eightOf(text, from, n), n) < 0) {
                throw new IllegalStateException("the tape refuses " + text);
            }
        }
    }
}
