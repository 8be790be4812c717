import java.io.IOException;
import java.lang.reflect.Method;
import java.lang.reflect.Modifier;
import java.nio.file.Files;
import java.nio.file.Path;
import java.util.List;
import java.util.TreeSet;
import java.util.regex.Matcher;
import java.util.regex.Pattern;

/** Those rules of LANGUAGE.md that a look at the text can tell; it runs in the project's folder. */
public final class LanguageTest {
    private static final List<String> FORBIDDEN = List.of(
            "throw", "throws", "try", "catch", "finally", "synchronized", "assert", "import", "package", "protected", "volatile",
            "native", "transient", "hashCode", "toString", "Object", "Exception", "NaN", "Thread", "Random");

    public static void main(String[] args) throws IOException {
        Script s = new Script();
        String source = Files.readString(Path.of("src/main/java/RoadPlugs.java"));
        String code = source.replaceAll("(?s)/\\*.*?\\*/", "").replaceAll("//[^\n]*", "");
        for (String word : FORBIDDEN) {
            s.due("rule 4 and 6: the word " + word, count(code, "\\b" + word + "\\b"), 0);
        }
        s.due("rule 2: lambdas and method references", count(code, "->|::"), 0);
        s.due("rule 3: signs beyond 127", source.chars().filter(c -> c > 127).count(), 0);
        s.due("rule 2: classes that aren't static", count(code, "(?m)^ ++(?!private static final class).*\\bclass \\w"), 0);
        s.due("rule 11: twelve classes", count(code, "\\bclass \\w") <= 12 ? 1 : 0, 1);
        s.due("rule 5: static fields that aren't final", count(code, "(?m)\\bstatic (?!final)[^(]*;"), 0);
        s.due("rule 12: objects made by calls", count(code, "(?m)^(?!.* final .* = new |\\s+\\w+\\[i\\] = new ).*\\bnew\\b"), 0);
        publicNames(s);
        methods(s, code);
        s.end("LanguageTest");
    }

    private static int count(String code, String pattern) {
        Matcher matcher = Pattern.compile(pattern).matcher(code);
        int found = 0;
        while (matcher.find()) {
            found++;
        }
        return found;
    }

    /** Rule 1: no other method bears the name of a public one, in the classes inside neither. */
    private static void publicNames(Script s) {
        TreeSet<String> names = new TreeSet<>();
        for (Method method : RoadPlugs.class.getDeclaredMethods()) {
            if (Modifier.isPublic(method.getModifiers())) {
                names.add(method.getName());
            }
        }
        for (Method method : RoadPlugs.class.getDeclaredMethods()) {
            if (!Modifier.isPublic(method.getModifiers())) {
                s.due("rule 1: " + method, names.contains(method.getName()) ? 1 : 0, 0);
            }
        }
        for (Class<?> inside : RoadPlugs.class.getDeclaredClasses()) {
            s.due("rule 2: static " + inside, Modifier.isStatic(inside.getModifiers()) ? 1 : 0, 1);
            s.due("rule 11: fields of " + inside, inside.getDeclaredFields().length <= 20 ? 1 : 0, 1);
            for (Method method : inside.getDeclaredMethods()) {
                s.due("rule 1: " + method, names.contains(method.getName()) ? 1 : 0, 0);
            }
        }
    }

    /** Rule 11: methods of sixty lines and seven parameters at most. */
    private static void methods(Script s, String code) {
        Matcher matcher = Pattern.compile("(?m)^( +)(?:[\\w\\[\\]]+ )*(\\w+)\\(([^)]*)\\) \\{\n").matcher(code);
        int found = 0;
        while (matcher.find()) {
            if (List.of("if", "for", "while", "switch").contains(matcher.group(2))) {
                continue;
            }
            found++;
            int end = code.indexOf("\n" + matcher.group(1) + "}", matcher.end() - 1);
            long lines = code.substring(matcher.start(), end + 1).lines().count() + 1;
            s.due(matcher.group(2) + " has " + lines + " lines", lines <= 60 ? 1 : 0, 1);
            s.due(matcher.group(2) + "'s parameters", matcher.group(3).split(",").length <= 7 ? 1 : 0, 1);
        }
        s.due("methods are found", found > 60 ? 1 : 0, 1);
    }
}
