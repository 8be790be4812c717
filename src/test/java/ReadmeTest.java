import java.io.IOException;
import java.nio.file.Files;
import java.nio.file.Path;
import java.util.regex.Matcher;
import java.util.regex.Pattern;

/** README.md names each call and each refusal, and the calls of its example answer what it says. Runs in the project's folder. */
public final class ReadmeTest {
    private static final Pattern FACE_CALL = Pattern.compile("public int (\\w+)\\(([^)]*)\\)");
    private static final Pattern EXAMPLE_CALL = Pattern.compile("(?m)^plugs\\.(\\w+)\\(([^)]*)\\); *// (-?\\d+): ");

    public static void main(String[] args) throws IOException {
        Script s = new Script();
        String readme = Files.readString(Path.of("README.md"));
        namesAll(s, readme);
        example(s, readme);
        s.end("ReadmeTest");
    }

    private static void namesAll(Script s, String readme) throws IOException {
        Matcher call = FACE_CALL.matcher(Files.readString(Path.of("src/main/java/RoadPlugs.java")));
        int calls = 0;
        while (call.find()) {
            String row = "| `" + call.group(1) + "(" + call.group(2).replaceAll("\\b(int|long|boolean) ", "") + ")` |";
            has(s, readme, row);
            calls++;
        }
        s.due("the calls of the face", calls, 28);
        has(s, readme, "| `NUMBER` (" + RoadPlugs.NUMBER + ") |");
        has(s, readme, "| `FULL` (" + RoadPlugs.FULL + ") |");
        has(s, readme, "| `NONE` (" + RoadPlugs.NONE + ") |");
        has(s, readme, "| `STATE` (" + RoadPlugs.STATE + ") |");
    }

    private static void has(Script s, String readme, String part) {
        s.due("README.md has " + part, readme.contains(part) ? 1 : 0, 1);
    }

    private static void example(Script s, String readme) {
        StringBuilder rows = new StringBuilder();
        Matcher call = EXAMPLE_CALL.matcher(readme);
        int calls = 0;
        while (call.find()) {
            rows.append(call.group(1)).append(' ').append(call.group(2).replace(",", "")).append(" = ").append(call.group(3)).append('\n');
            calls++;
        }
        s.due("the calls of the example", calls, readme.split("(?m)^plugs\\.").length - 1);
        s.run("the example", rows.toString());
        s.run("the text of rules", "site 0 1 = 0\ntape share first; cap 80; idle 7 after 1;\nread 0 = 3");
    }
}
