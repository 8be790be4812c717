import java.lang.reflect.Method;

/**
 * Runs scripts of calls, each on a new object. A row is "call arguments = answer"; several rows may stand
 * on one line, with "|" between. "tape TEXT" feeds the text in parts of eight bytes.
 */
final class Script {
    private int wrong = 0;
    private int rows = 0;

    void run(String name, String script) {
        RoadPlugs plugs = new RoadPlugs();
        for (String line : script.split("\n")) {
            if (line.strip().startsWith("tape ")) {
                feedText(plugs, line.strip().substring(5));
                continue;
            }
            for (String row : line.split("\\|")) {
                if (!row.isBlank()) {
                    runRow(name, plugs, row.strip());
                }
            }
        }
    }

    void due(String what, long got, long want) {
        rows++;
        if (got != want) {
            wrong++;
            System.out.println(what + " answered " + got + ", due is " + want);
        }
    }

    void end(String test) {
        System.out.println(test + ": " + rows + " answers, " + wrong + " of them wrong");
        if (wrong != 0 || rows == 0) {
            System.exit(1);
        }
    }

    /** Feeds a text; a bar at its end keeps blanks there and is no part of it. */
    static void feedText(RoadPlugs plugs, String text) {
        String all = text.endsWith("|") ? text.substring(0, text.length() - 1) : text;
        for (int from = 0; from < all.length(); from += 8) {
            int n = Math.min(8, all.length() - from);
            long eight = 0;
            for (int i = n - 1; i >= 0; i--) {
                eight = eight << 8 | all.charAt(from + i) & 255;
            }
            if (plugs.feed(eight, n) < 0) {
                throw new IllegalStateException("the tape refuses " + text);
            }
        }
    }

    private void runRow(String name, RoadPlugs plugs, String row) {
        String[] sides = row.split("=");
        String[] words = sides[0].strip().split(" +");
        due(name + ": " + row, call(plugs, words), Long.parseLong(sides[1].strip()));
    }

    private static int call(RoadPlugs plugs, String[] words) {
        for (Method method : RoadPlugs.class.getDeclaredMethods()) {
            if (method.getName().equals(words[0]) && method.getParameterCount() == words.length - 1) {
                return invoke(plugs, method, words);
            }
        }
        throw new IllegalArgumentException("no such call: " + String.join(" ", words));
    }

    private static int invoke(RoadPlugs plugs, Method method, String[] words) {
        Class<?>[] types = method.getParameterTypes();
        Object[] values = new Object[types.length];
        for (int i = 0; i < types.length; i++) {
            String word = words[i + 1];
            if (types[i] == boolean.class) {
                if (!word.equals("true") && !word.equals("false")) {
                    throw new IllegalArgumentException(word);
                }
                values[i] = word.equals("true");
            } else if (types[i] == long.class) {
                values[i] = Long.parseLong(word);
            } else {
                values[i] = Integer.parseInt(word);
            }
        }
        try {
            return (Integer) method.invoke(plugs, values);
        } catch (ReflectiveOperationException e) {
            throw new IllegalStateException(String.join(" ", words), e);
        }
    }
}
