import java.nio.file.Files;
import java.nio.file.Path;
import java.util.ArrayList;
import java.util.HashMap;
import java.util.List;
import java.util.Map;
import java.util.Set;
import java.util.TreeSet;
import java.util.regex.Matcher;
import java.util.regex.Pattern;

/** Rules 8, 9, 11 and 12 of LANGUAGE.md, as far as they can be read off the lines of the class. */
public final class LanguageTest {
    private static final Pattern HEAD = Pattern.compile("( {4}| {8})(?! )[\\w\\[\\] ]*?(\\w+)\\([^()]*\\) \\{");
    private static final Pattern CALLED = Pattern.compile("\\b(\\w+)\\(");
    private static final int DEEPEST = 8, LONGEST = 60, PARAMETERS = 7;
    /** Far above any depth that is allowed, so that a circle of calls is told and not followed. */
    private static final int CIRCLE = 40;

    private record Method(String head, String name, List<String> body) {
    }

    private static final List<Method> METHODS = new ArrayList<>();
    private static final Map<String, Set<String>> CALLS = new HashMap<>();

    public static void main(String[] args) throws Exception {
        String code = Files.readString(Path.of("src/main/java/FrameSheets.java"))
                .replaceAll("/\\*(?s:.*?)\\*/", "").replaceAll("//[^\n]*", "").replaceAll("\"[^\"]*\"", "\"\"");
        List<String> lines = code.lines().toList();
        readMethods(lines);
        isTrue("the methods of the face are all read, and more", METHODS.size() > 100);
        for (Method m : METHODS) {
            isTrue(m.head + " has at most " + LONGEST + " lines", m.body.size() <= LONGEST);
            isTrue(m.head + " takes at most " + PARAMETERS, m.head.split(",").length <= PARAMETERS);
        }
        for (Method m : METHODS) collectCalls(m);
        for (String name : CALLS.keySet()) isTrue(name + "() goes at most " + DEEPEST + " deep", depth(name, 1) <= DEEPEST);
        loops(lines);
        objects();
        Check.end();
    }

    private static void isTrue(String what, boolean good) {
        Check.due(what, 1, good ? 1 : 0);
    }

    private static void readMethods(List<String> lines) {
        for (int i = 0; i < lines.size(); i++) {
            Matcher head = HEAD.matcher(lines.get(i));
            if (!head.matches() || lines.get(i).contains(" class ")) continue;
            List<String> body = new ArrayList<>();
            while (!lines.get(++i).equals(head.group(1) + "}")) body.add(lines.get(i));
            METHODS.add(new Method(head.group().trim(), head.group(2), body));
        }
    }

    /** By names alone: two methods of one name count as one, so that a depth is never told too low. */
    private static void collectCalls(Method m) {
        Set<String> names = new TreeSet<>();
        for (Method other : METHODS) names.add(other.name);
        Set<String> called = CALLS.computeIfAbsent(m.name, name -> new TreeSet<>());
        for (String line : m.body) {
            Matcher call = CALLED.matcher(line);
            while (call.find()) if (names.contains(call.group(1))) called.add(call.group(1));
        }
    }

    private static int depth(String name, int level) {
        if (level >= CIRCLE) return level;
        int deepest = 1;
        for (String called : CALLS.get(name)) deepest = Math.max(deepest, 1 + depth(called, level + 1));
        return deepest;
    }

    private static void loops(List<String> lines) {
        for (String line : lines) {
            isTrue("no loop without a bound: " + line.trim(), !line.matches(".*(while \\(true|for \\(;|do \\{).*"));
        }
    }

    /** Only constructors and the first values of fields make objects. */
    private static void objects() {
        for (Method m : METHODS) {
            boolean makes = m.body.stream().anyMatch(line -> line.matches(".*\\b(new|clone|copyOf)\\b.*"));
            boolean isConstructor = Character.isUpperCase(m.name.charAt(0));
            isTrue(m.head + " makes no object", isConstructor || !makes);
        }
    }
}
