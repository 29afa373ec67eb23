import java.io.IOException;
import java.lang.reflect.InvocationTargetException;
import java.lang.reflect.Method;
import java.nio.file.Files;
import java.nio.file.Path;
import java.util.regex.Matcher;
import java.util.regex.Pattern;

/** The example in README.md, line by line: what is told there behind each call is what it answers. */
public final class ReadmeTest {
    private static final Pattern EXAMPLE = Pattern.compile("```java\n(.*?)```", Pattern.DOTALL);
    private static final Pattern LINE = Pattern.compile("v\\.(\\w+)\\(([^)]*)\\); +// (-?\\w+)(?:: .*?)?(?:; ROW ([-0-9 ]+))?");
    private static final String MADE = "BonnetValley v = new BonnetValley();";

    public static void main(String[] args) throws Exception {
        example();
        tellsHowToTest();
        Check.close("ReadmeTest");
    }

    private static String readme() throws IOException {
        return Files.readString(Path.of("README.md"));
    }

    private static void example() throws Exception {
        Matcher block = EXAMPLE.matcher(readme());
        Check.due("there is an example", block.find(), true);
        Check c = new Check();
        for (String line : block.group(1).split("\n")) {
            Matcher m = LINE.matcher(line);
            Check.due(line + ": is understood", line.equals(MADE) || m.matches(), true);
            if (!line.equals(MADE) && m.matches()) {
                Check.due(line, called(c.v, m.group(1), m.group(2)).equals(m.group(3)), true);
                told(c, line, m.group(4));
            }
        }
    }

    private static String called(BonnetValley v, String name, String arguments) throws Exception {
        String[] parts = arguments.isEmpty() ? new String[0] : arguments.split(", *");
        Class<?>[] types = new Class<?>[parts.length];
        Object[] values = new Object[parts.length];
        for (int i = 0; i < parts.length; i++) {
            types[i] = int.class;
            values[i] = Integer.decode(parts[i]);
        }
        Method call = BonnetValley.class.getMethod(name, types);
        try {
            return "" + call.invoke(v, values);
        } catch (InvocationTargetException e) {
            return "throws." + e.getCause().getClass().getSimpleName();
        }
    }

    private static void told(Check c, String line, String row) {
        if (row == null) {
            return;
        }
        String[] numbers = row.trim().split(" ");
        long[] want = new long[numbers.length];
        for (int i = 0; i < want.length; i++) {
            want[i] = Long.parseLong(numbers[i]);
        }
        c.row(line, want);
    }

    private static void tellsHowToTest() throws IOException {
        String s = readme();
        for (String word : new String[] {".ci/run", "src/main/java/BonnetValley.java", "../shared/tests", "512 calls"}) {
            Check.due("README.md tells of " + word, s.contains(word), true);
        }
    }
}
