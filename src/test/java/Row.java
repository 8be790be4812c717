import java.util.ArrayList;
import java.util.List;

/** A call with its arguments (true is 1, false is 0) and the answer that is due. */
record Row(String text, String call, long[] args, long due) {

    /** The rows of a script: "call arguments = answer", with "|" between; "tape TEXT" is as many feeds as it takes. */
    static List<Row> rowsOf(String script) {
        List<Row> rows = new ArrayList<>();
        int onTape = 0;
        for (String line : script.split("\n")) {
            if (line.strip().startsWith("tape ")) {
                onTape = addFeeds(rows, line.strip().substring(5), onTape);
                continue;
            }
            for (String text : line.split("\\|")) {
                if (text.isBlank()) {
                    continue;
                }
                Row row = rowOf(text.strip());
                rows.add(row);
                if (row.call.equals("read")) {
                    onTape = 0;
                } else if (row.call.equals("feed") && row.due > 0) {
                    onTape = (int) row.due;
                }
            }
        }
        return rows;
    }

    static Row rowOf(String text) {
        String[] sides = text.split("=");
        String[] words = sides[0].strip().split(" +");
        long[] args = new long[words.length - 1];
        for (int i = 0; i < args.length; i++) {
            args[i] = words[i + 1].equals("true") ? 1 : words[i + 1].equals("false") ? 0 : Long.parseLong(words[i + 1]);
        }
        return new Row(text, words[0], args, sides.length > 1 ? Long.parseLong(sides[1].strip()) : 0);
    }

    /** Feeds a text; a bar at its end keeps blanks there and is no part of it. */
    private static int addFeeds(List<Row> rows, String text, int onTape) {
        String all = text.endsWith("|") ? text.substring(0, text.length() - 1) : text;
        for (int from = 0; from < all.length(); from += 8) {
            int n = Math.min(8, all.length() - from);
            rows.add(rowOf("feed " + eightOf(all, from, n) + " " + n + " = " + (onTape + from + n)));
        }
        return onTape + all.length();
    }

    static long eightOf(String text, int from, int n) {
        long eight = 0;
        for (int i = n - 1; i >= 0; i--) {
            eight = eight << 8 | text.charAt(from + i) & 255;
        }
        return eight;
    }

    private int at(int i) {
        return (int) args[i];
    }

    private boolean is(int i) {
        return args[i] != 0;
    }

    int on(RoadPlugs plugs) {
        return switch (call + "/" + args.length) {
            case "site/2" -> plugs.site(at(0), at(1));
            case "plug/3" -> plugs.plug(at(0), at(1), at(2));
            case "car/5" -> plugs.car(at(0), at(1), at(2), at(3), at(4));
            case "set/2" -> plugs.set(at(0), at(1));
            case "drive/3" -> plugs.drive(at(0), at(1), at(2));
            case "gain/3" -> plugs.gain(at(0), at(1), at(2));
            case "of/2" -> plugs.of(at(0), at(1));
            case "trip/4" -> plugs.trip(at(0), at(1), at(2), at(3));
            case "feed/2" -> plugs.feed(args[0], at(1));
            case "read/1" -> plugs.read(at(0));
            case "siteOf/2" -> plugs.siteOf(at(0), at(1));
            case "come/4" -> plugs.come(at(0), at(1), at(2), at(3));
            case "leave/1" -> plugs.leave(at(0));
            case "go/2" -> plugs.go(at(0), at(1));
            case "fail/2" -> plugs.fail(at(0), is(1));
            case "ticks/1" -> plugs.ticks(at(0));
            case "plugOf/2" -> plugs.plugOf(at(0), at(1));
            case "says/2" -> plugs.says(at(0), is(1));
            case "tried/3" -> plugs.tried(at(0), at(1), is(2));
            case "tryOf/2" -> plugs.tryOf(at(0), at(1));
            case "lies/0" -> plugs.lies();
            case "advice/3" -> plugs.advice(at(0), at(1), at(2));
            case "line/4" -> plugs.line(is(0), at(1), at(2), at(3));
            case "joined/1" -> plugs.joined(at(0));
            case "clear/0" -> plugs.clear();
            case "many/1" -> plugs.many(at(0));
            case "keep/0" -> plugs.keep();
            case "back/0" -> plugs.back();
            default -> throw new IllegalArgumentException("no such call: " + text);
        };
    }
}
