import java.lang.reflect.Method;
import java.lang.reflect.Modifier;
import java.nio.file.Files;
import java.nio.file.Path;
import java.util.List;
import java.util.regex.Matcher;
import java.util.regex.Pattern;
import java.util.stream.Stream;

/** README.md: what its example says is answered, and it names every call and every test. */
public final class ReadmeTest {
    private static final Pattern TEXT = Pattern.compile("String told = \"(.*)\";");
    private static final Pattern CALL = Pattern.compile("x\\.(\\w+)\\((.*)\\); *// (-?\\d+)(?:, asked\\(\\) (-?\\d+))?.*");

    public static void main(String[] args) throws Exception {
        String page = Files.readString(Path.of("README.md"));
        example(page.substring(page.indexOf("```java") + 7));
        for (Method m : FrameSheets.class.getDeclaredMethods()) {
            if (Modifier.isPublic(m.getModifiers())) names(page, "`" + m.getName() + "(");
        }
        try (Stream<Path> files = Files.list(Path.of("src/test/java"))) {
            for (Path file : files.toList()) {
                String name = file.getFileName().toString();
                if (name.endsWith("Test.java")) names(page, "| `" + name.replace(".java", "") + "` |");
            }
        }
        Check.end();
    }

    private static void names(String page, String what) {
        Check.due("README.md names " + what, 1, page.contains(what) ? 1 : 0);
    }

    private static void example(String from) {
        List<String> lines = from.substring(0, from.indexOf("```")).lines().toList();
        FrameSheets x = new FrameSheets();
        String told = "";
        int calls = 0;
        for (String line : lines) {
            Matcher text = TEXT.matcher(line);
            if (text.matches()) told = text.group(1);
            if (line.startsWith("for ")) for (int i = 0; i < told.length(); i++) x.put(0, i, told.charAt(i));
            Matcher call = CALL.matcher(line);
            if (!call.matches()) continue;
            calls++;
            answers(x, call, call.group(2).replace("told.length()", "" + told.length()));
        }
        Check.due("lines of the example that are no calls with an answer", 3, lines.stream().filter(s -> !s.isBlank()).count() - calls);
    }

    private static void answers(FrameSheets x, Matcher call, String arguments) {
        int[] a = Stream.of(arguments.split(", *")).filter(s -> !s.isEmpty()).mapToInt(Integer::parseInt).toArray();
        Check.due(call.group(), Long.parseLong(call.group(3)), Calls.ofClass(x, call.group(1), a));
        if (call.group(4) != null) Check.due(call.group() + " by asked()", Long.parseLong(call.group(4)), x.asked());
    }
}
