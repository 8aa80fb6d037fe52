import java.lang.reflect.Constructor;
import java.lang.reflect.Field;
import java.lang.reflect.Method;
import java.lang.reflect.Modifier;
import java.nio.file.Files;
import java.nio.file.Path;
import java.util.Set;
import java.util.TreeSet;
import java.util.regex.Matcher;
import java.util.regex.Pattern;

/** The public face of the document, and those rules of LANGUAGE.md that can be read off. */
public final class FaceTest {
    private static final String SOURCE = "src/main/java/FrameSheets.java";
    private static final String[] FACE = {
        "int row(int,int)", "int lay(int,int,int)", "int at(int,int)", "int tear(int)",
        "int copy(int,int,int,int,int)", "int mean(int)", "int text(int,int)", "int put(int,int,int)",
        "int fault(int)", "int sheet(int)", "int write(int)", "int frame(int,int)", "int place(int,int)",
        "int mark(int,int)", "int set(int)", "int lift(int)", "int all(int)", "int rule(int)", "int undo(int)",
        "int keep(int)", "int on(int)", "int free(int,int,int)", "int seen(int,int,int)",
        "int point(int,int,int)", "int used(int)", "int takes(int)", "int would(int,int)", "int best()",
        "int lots(int,int)", "int asked()", "int count(int)", "int finding()", "int findings(int)",
        "long digest()",
    };

    public static void main(String[] args) throws Exception {
        constants();
        methods();
        nothingElse();
        nested();
        source();
        Check.end();
    }

    private static void isTrue(String what, boolean good) {
        Check.due(what, 1, good ? 1 : 0);
    }

    private static void constants() {
        Check.due("BAD", -1, FrameSheets.BAD);
        Check.due("FULL", -2, FrameSheets.FULL);
        Check.due("FINDING", -3, FrameSheets.FINDING);
        Check.due("STATE", -4, FrameSheets.STATE);
        Check.due("SPENT", -6, FrameSheets.SPENT);
        Check.due("NONE", -9, FrameSheets.NONE);
    }

    private static void methods() {
        isTrue("the class is public and final", Modifier.isPublic(FrameSheets.class.getModifiers())
                && Modifier.isFinal(FrameSheets.class.getModifiers()));
        Set<String> open = new TreeSet<>();
        for (Method m : FrameSheets.class.getDeclaredMethods()) {
            if (!Modifier.isPrivate(m.getModifiers())) open.add(signature(m));
        }
        Set<String> want = new TreeSet<>(java.util.List.of(FACE));
        isTrue("methods " + open + " are those of the face", open.equals(want));
    }

    private static String signature(Method m) {
        StringBuilder s = new StringBuilder(m.getReturnType() + " " + m.getName() + "(");
        for (Class<?> p : m.getParameterTypes()) s.append(s.charAt(s.length() - 1) == '(' ? "" : ",").append(p);
        return s.append(")").toString();
    }

    private static void nothingElse() {
        Set<String> open = new TreeSet<>();
        for (Field f : FrameSheets.class.getDeclaredFields()) {
            if (!Modifier.isPrivate(f.getModifiers())) open.add(f.getName());
            if (Modifier.isStatic(f.getModifiers())) isTrue("static " + f + " is final", Modifier.isFinal(f.getModifiers()));
        }
        isTrue("fields " + open, open.equals(Set.of("BAD", "FULL", "FINDING", "STATE", "SPENT", "NONE")));
        Constructor<?>[] made = FrameSheets.class.getDeclaredConstructors();
        isTrue("one public constructor without parameters",
                made.length == 1 && Modifier.isPublic(made[0].getModifiers()) && made[0].getParameterCount() == 0);
    }

    private static void nested() {
        Set<String> names = new TreeSet<>();
        for (String s : FACE) names.add(s.substring(s.indexOf(' ') + 1, s.indexOf('(')));
        Class<?>[] all = FrameSheets.class.getDeclaredClasses();
        isTrue("at most twelve classes", all.length < 12);
        for (Class<?> c : all) {
            isTrue(c + " is static and not public", Modifier.isStatic(c.getModifiers()) && !Modifier.isPublic(c.getModifiers()));
            int fields = 0;
            for (Field f : c.getDeclaredFields()) if (!Modifier.isStatic(f.getModifiers())) fields++;
            isTrue(c + " has at most twenty fields", fields <= 20);
            for (Method m : c.getDeclaredMethods()) {
                isTrue(m + " bears a name of its own", !names.contains(m.getName()));
                isTrue(m + " takes at most seven", m.getParameterCount() <= 7);
            }
        }
        for (Method m : FrameSheets.class.getDeclaredMethods()) {
            boolean own = Modifier.isPrivate(m.getModifiers()) && !m.isSynthetic();
            if (own) isTrue(m + " bears a name of its own", !names.contains(m.getName()));
        }
    }

    private static void source() throws Exception {
        String code = Files.readString(Path.of(SOURCE))
                .replaceAll("(?s)/\\*.*?\\*/", " ").replaceAll("//[^\n]*", " ").replaceAll("\"[^\"]*\"", "\"\"");
        String[] never = {
            "throw", "throws", "try", "catch", "synchronized", "assert", "import", "package", "System.out", "->", "::",
            "Random", "Thread", "nanoTime", "currentTimeMillis", "hashCode", "toString", "Exact", "instanceof Object",
        };
        for (String word : never) {
            boolean isWord = Character.isLetter(word.charAt(0));
            Matcher m = Pattern.compile(isWord ? "\\b" + Pattern.quote(word) + "\\b" : Pattern.quote(word)).matcher(code);
            isTrue("no " + word + " in " + SOURCE, !m.find());
        }
        Matcher call = Pattern.compile("\\b(System|Math|Integer|Long|Arrays|String|StringBuilder|Character|Byte)\\.(\\w+)").matcher(code);
        while (call.find()) {
            String name = call.group();
            isTrue(name + " is listed", Set.of("System.arraycopy", "Math.min", "Math.max", "Math.abs").contains(name));
        }
    }
}
