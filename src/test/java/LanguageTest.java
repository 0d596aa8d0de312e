import java.io.File;
import java.lang.reflect.Constructor;
import java.lang.reflect.Field;
import java.lang.reflect.Method;
import java.lang.reflect.Modifier;
import java.nio.file.Files;
import java.util.Set;
import java.util.TreeSet;
import java.util.regex.Matcher;
import java.util.regex.Pattern;

/** The face of the document and the rules of LANGUAGE.md that can be seen from the source and the classes. */
public final class LanguageTest {
    private static final Due due = new Due("LanguageTest");
    private static final String[] FACE = {
        "int told(int)", "long time(int)", "int calendar(int)", "int span(int, int)", "int alarmAt(int, int)", "int tick(int)",
        "int warm(int)", "int crystal(int, int, int)", "int bound(int, int)", "int power(boolean)", "int hear(int, int)",
        "int alarm(int, int, int)", "int drop(int)", "int learn(int, int)", "int drift(int)", "int undo(int)", "int evenly(int, int, int)",
        "long after(int)", "int rings(int)", "int untilWide(int)", "int write(int)", "int tear()", "int seed(int)", "int keep(int)", "int goBack(int)"};

    private static String signature(Method m) {
        StringBuilder text = new StringBuilder(m.getReturnType().getName()).append(' ').append(m.getName()).append('(');
        for (Class<?> type : m.getParameterTypes()) {
            if (text.charAt(text.length() - 1) != '(') text.append(", ");
            text.append(type.getName());
        }
        return text.append(')').toString();
    }

    private static void face() {
        Set<String> want = new TreeSet<>(Set.of(FACE)), got = new TreeSet<>(), names = new TreeSet<>();
        for (String f : FACE) names.add(f.replaceAll(".* (.*)\\(.*", "$1"));
        for (Method m : BoardClock.class.getDeclaredMethods()) {
            if (Modifier.isPrivate(m.getModifiers())) due.holds("no private method " + m.getName(), !names.contains(m.getName()));
            else got.add(signature(m));
        }
        due.alike("methods", got.toString(), want.toString());
        Set<String> fields = new TreeSet<>();
        for (Field f : BoardClock.class.getDeclaredFields()) {
            if (!Modifier.isPrivate(f.getModifiers())) fields.add(f.getName());
            if (Modifier.isStatic(f.getModifiers())) due.holds("static " + f.getName() + " is final", Modifier.isFinal(f.getModifiers()));
        }
        due.alike("fields", fields.toString(), "[FULL, NONE, NOT, OUTSIDE, UNKNOWN]");
        Constructor<?>[] makers = BoardClock.class.getDeclaredConstructors();
        due.is("constructors", makers.length, 1);
        due.is("its parameters", makers[0].getParameterCount(), 0);
        due.holds("public", Modifier.isPublic(makers[0].getModifiers()));
        due.holds("final", Modifier.isFinal(BoardClock.class.getModifiers()));
        due.is("NONE", BoardClock.NONE, -1);
        due.is("UNKNOWN", BoardClock.UNKNOWN, -1000000001);
        due.is("OUTSIDE", BoardClock.OUTSIDE, -1000000002);
        due.is("NOT", BoardClock.NOT, -1000000003);
        due.is("FULL", BoardClock.FULL, -1000000004);
        for (Class<?> inside : BoardClock.class.getDeclaredClasses()) {
            due.holds(inside.getName() + " is static", Modifier.isStatic(inside.getModifiers()));
            due.holds(inside.getName() + " is not public", !Modifier.isPublic(inside.getModifiers()));
            int own = 0;
            for (Field f : inside.getDeclaredFields()) own += Modifier.isStatic(f.getModifiers()) ? 0 : 1;
            due.holds(inside.getName() + " has at most twenty fields", own <= 20);
            for (Method m : inside.getDeclaredMethods()) due.holds(inside.getName() + "." + m.getName() + " is no name of the face", !names.contains(m.getName()));
        }
    }

    private static String withoutComments(String source) {
        return source.replaceAll("(?s)/\\*.*?\\*/", " ").replaceAll("//[^\n]*", " ");
    }

    private static void words(String code) {
        String[] banned = {"throw", "throws", "try", "catch", "finally", "synchronized", "assert", "import", "package", "protected", "native", "volatile",
            "transient", "double", "float", "Object", "System.out", "System.err", "nanoTime", "currentTimeMillis", "Random", "Thread", "hashCode", "toString"};
        for (String word : banned) due.holds("no " + word, !Pattern.compile("\\b" + Pattern.quote(word) + "\\b").matcher(code).find());
        due.holds("no lambda", !code.contains("->"));
        due.holds("no method reference", !code.contains("::"));
        due.holds("no Exact", !code.contains("Exact"));
        Matcher library = Pattern.compile("\\b(Math|System|Arrays|Integer|Long|String)\\.(\\w+)").matcher(code);
        Set<String> known = Set.of("Math.min", "Math.max", "Math.abs", "Math.floorDiv", "Math.floorMod", "System.arraycopy");
        while (library.find()) due.holds("library: " + library.group(), known.contains(library.group()));
        for (int i = 0; i < code.length(); i++) if (code.charAt(i) > 126) due.holds("a sign beyond 126", false);
    }

    /** Objects are made in field initialisers and the constructor alone, so calls never fill the room. */
    private static void makesNothingInCalls(String code) {
        for (String line : code.split("\n")) {
            if (line.contains("new ")) due.holds("made once: " + line.trim(), line.contains(" final ") || line.matches("\\s*(past|images)\\[i\\] = new State\\(\\);"));
        }
    }

    private static void methodLengths(String code) {
        int start = -1, line = 0;
        for (String text : code.split("\n", -1)) {
            line++;
            if (text.matches("    (    )?\\w.*\\) \\{")) start = line;
            if (start >= 0 && text.matches("    (    )?\\}")) {
                due.holds("the method at line " + start + " is short", line - start <= 60);
                start = -1;
            }
        }
    }

    public static void main(String[] args) throws Exception {
        face();
        String code = withoutComments(Files.readString(new File(args.length > 0 ? args[0] : "src/main/java/BoardClock.java").toPath()));
        words(code);
        makesNothingInCalls(code);
        methodLengths(code);
        due.end();
    }
}
