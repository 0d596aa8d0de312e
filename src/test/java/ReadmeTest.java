import java.io.File;
import java.lang.reflect.Method;
import java.nio.file.Files;
import java.util.regex.Matcher;
import java.util.regex.Pattern;

/** The example of README.md: every line of it is called, and must answer the number that stands behind it. */
public final class ReadmeTest {
    private static final Due due = new Due("ReadmeTest");
    private static final Pattern LINE = Pattern.compile("clock\\.(\\w+)\\(([-0-9, ]+)\\);\\s+// (-?\\d+): .*");

    private static long answer(BoardClock clock, String name, String[] numbers) throws Exception {
        Class<?>[] types = new Class<?>[numbers.length];
        Object[] values = new Object[numbers.length];
        for (int i = 0; i < numbers.length; i++) {
            types[i] = int.class;
            values[i] = Integer.parseInt(numbers[i].trim());
        }
        Method call = BoardClock.class.getMethod(name, types);
        return ((Number) call.invoke(clock, values)).longValue();
    }

    private static String example(String readme) {
        int from = readme.indexOf("```java"), to = readme.indexOf("```", from + 3);
        return from < 0 || to < 0 ? "" : readme.substring(from, to);
    }

    public static void main(String[] args) throws Exception {
        BoardClock clock = new BoardClock();
        int calls = 0;
        for (String text : example(Files.readString(new File("README.md").toPath())).split("\n")) {
            Matcher line = LINE.matcher(text);
            if (line.matches()) {
                calls++;
                due.is(text, answer(clock, line.group(1), line.group(2).split(",")), Long.parseLong(line.group(3)));
            } else {
                due.holds("a line that is understood: " + text, text.equals("```java") || text.equals("BoardClock clock = new BoardClock();"));
            }
        }
        due.holds("the example has calls", calls > 0);
        due.end();
    }
}
