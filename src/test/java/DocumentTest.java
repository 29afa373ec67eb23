import java.io.IOException;
import java.lang.reflect.Method;
import java.lang.reflect.Modifier;
import java.nio.file.DirectoryStream;
import java.nio.file.Files;
import java.nio.file.Path;
import java.util.TreeSet;
import java.util.regex.Matcher;
import java.util.regex.Pattern;

/** The tests and the class beside the document: no promise without a test, the face call by call. */
public final class DocumentTest {
    private static final Pattern QUOTED = Pattern.compile("sentence\\((\\d+), *\"");
    private static final Pattern FACE = Pattern.compile("```java\n(.*?)```", Pattern.DOTALL);
    private static final Pattern CALL = Pattern.compile("public (\\w+) (\\w+)\\(([^)]*)\\)( throws NoSuchElementException)?;");

    public static void main(String[] args) throws Exception {
        promises();
        face();
        Check.close("DocumentTest");
    }

    private static void promises() throws IOException {
        Check.due("promises of the document", Document.promises(), Document.PROMISES);
        TreeSet<Integer> tested = new TreeSet<>();
        try (DirectoryStream<Path> tests = Files.newDirectoryStream(Path.of("src", "test", "java"), "*Test.java")) {
            for (Path test : tests) {
                Matcher m = QUOTED.matcher(Files.readString(test));
                while (m.find()) {
                    tested.add(Integer.parseInt(m.group(1)));
                }
            }
        }
        for (int promise = 0; promise <= Document.PROMISES; promise++) {
            Check.due("promise " + promise + " has a test with its words", tested.contains(promise), true);
        }
    }

    /** Every call of the face as the document writes it, with its throws, and no other. */
    private static void face() throws IOException {
        Matcher block = FACE.matcher(Files.readString(Path.of("..", "shared", "DOC.md")));
        Check.due("there is a face", block.find(), true);
        TreeSet<String> want = new TreeSet<>();
        Matcher m = CALL.matcher(block.group(1));
        while (m.find()) {
            String kinds = m.group(3).replaceAll(" \\w+(?=,|$)", "");
            want.add(m.group(1) + " " + m.group(2) + "(" + kinds + ")" + (m.group(4) == null ? "" : m.group(4)));
        }
        TreeSet<String> got = new TreeSet<>();
        for (Method call : BonnetValley.class.getDeclaredMethods()) {
            if (Modifier.isPublic(call.getModifiers())) {
                got.add(written(call));
            }
        }
        Check.due("calls of the face", want.size(), 47);
        for (String call : want) {
            Check.due(call + " is there", got.contains(call), true);
        }
        got.removeAll(want);
        Check.due("others: " + got, got.size(), 0);
    }

    private static String written(Method call) {
        StringBuilder s = new StringBuilder(call.getReturnType().getName()).append(' ').append(call.getName()).append('(');
        for (Class<?> kind : call.getParameterTypes()) {
            s.append(s.charAt(s.length() - 1) == '(' ? "" : ", ").append(kind.getName());
        }
        s.append(')');
        for (Class<?> thrown : call.getExceptionTypes()) {
            s.append(" throws ").append(thrown.getSimpleName());
        }
        return s.toString();
    }
}
