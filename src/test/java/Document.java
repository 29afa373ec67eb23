import java.io.IOException;
import java.nio.file.Files;
import java.nio.file.Path;
import java.util.Map;
import java.util.TreeMap;
import java.util.regex.Matcher;
import java.util.regex.Pattern;

/** The document's own words, by promise, so that a test can't quote what does not stand there. */
final class Document {
    static final int PROMISES = 48;
    private static final Path PLACE = Path.of("..", "shared", "DOC.md");
    private static final Pattern HEADING = Pattern.compile("(?m)^## (.*)$");
    private static final Map<Integer, String> WORDS = read();

    private Document() {
    }

    /** Whether the words stand under a promise; of promise 0: ahead of the first promise. */
    static boolean says(int promise, String words) {
        return WORDS.containsKey(promise) && WORDS.get(promise).contains(plain(words));
    }

    static int promises() {
        return WORDS.size() - 1;
    }

    private static Map<Integer, String> read() {
        String all;
        try {
            all = Files.readString(PLACE);
        } catch (IOException e) {
            throw new IllegalStateException("the tests are run from the project's directory, beside " + PLACE, e);
        }
        Map<Integer, String> words = new TreeMap<>();
        Matcher m = HEADING.matcher(all);
        int promise = 0;
        int start = 0;
        while (m.find()) {
            Matcher number = Pattern.compile("Promise (\\d+):.*").matcher(m.group(1));
            boolean ends = m.group(1).equals("Not promised");
            if (number.matches() || ends) {
                words.put(promise, plain(all.substring(start, m.start())));
                promise = ends ? -1 : Integer.parseInt(number.group(1));
                start = m.end();
            }
        }
        return words;
    }

    private static String plain(String s) {
        return s.replace("`", "").replaceAll("\\s+", " ");
    }
}
