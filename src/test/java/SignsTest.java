/** Which of all 256 signs can stand where in each text, and at which place the others are told of. */
public final class SignsTest {
    private static final String DIGITS = "0123456789";
    private static final String LETTERS = "blkfrcnp";
    private static final String OPERATORS = "<>=+-*/";

    interface Read {
        long answer(BonnetValley v);
    }

    interface Due {
        long of(int c);
    }

    public static void main(String[] args) {
        String words = "-1 - p: the sign at p can't stand there";
        Check.sentence(4, words, SignsTest::valley);
        Check.sentence(5, words, SignsTest::people);
        Check.sentence(6, "-1 - p: likewise", SignsTest::things);
        Check.sentence(7, words, SignsTest::light);
        Check.sentence(8, words, () -> rules(BonnetValley::rule, -1));
        Check.sentence(42, "-10000 - p: the sign at p can't stand there", () -> rules(BonnetValley::law, -10000));
        Check.sentence(17, words, SignsTest::day);
        Check.close("SignsTest");
    }

    /** Each sign between these two, each put into a new object. */
    private static void each(Read read, String ahead, String behind, Due due) {
        for (int c = 0; c < 256; c++) {
            BonnetValley v = new BonnetValley();
            Check.put(v, ahead + (char) c + behind);
            Check.due("sign " + c + " between '" + ahead + "' and '" + behind + "'", read.answer(v), due.of(c));
            Check.due("signs left", v.count(12), 0);
        }
    }

    private static void each(Read read, String ahead, String behind, String good, long due, long bad) {
        each(read, ahead, behind, c -> has(good, c) ? due : bad);
    }

    private static boolean has(String signs, int c) {
        return signs.indexOf(c) >= 0;
    }

    private static void valley() {
        // the text tells of 9 FIELDS: of more it ends too early
        each(BonnetValley::valley, "", "3.........", c -> c == '3' ? 9 : has("4567", c) ? -12 : -1);
        each(BonnetValley::valley, "3", ".........", c -> c == '3' ? 9 : has("4567", c) ? -12 : -2);
        each(BonnetValley::valley, "33", "........", ".#", 9, -3);
        each(BonnetValley::valley, "33........", "", ".#", 9, -11);
        each(BonnetValley::valley, "33.........", "", "", 9, -12);
    }

    private static void people() {
        each(BonnetValley::people, "", "000", "012", 1, -1);
        each(BonnetValley::people, "0", "00", "012", 1, -2);
        each(BonnetValley::people, "00", "0", "01234567", 1, -3);
        each(BonnetValley::people, "000", "", "01234", 1, -4);
        each(BonnetValley::people, "0000", "0000", ";", 2, -5);
        each(BonnetValley::people, "0000;", "000", "012", 2, -6);
    }

    private static void things() {
        each(BonnetValley::things, "", "0", "012", 1, -1);
        each(BonnetValley::things, "0", "", "012", 1, -2);
        each(BonnetValley::things, "00", "00", ";", 2, -3);
        each(BonnetValley::things, "00;", "0", "012", 2, -4);
    }

    private static void light() {
        each(BonnetValley::light, "", "", DIGITS, 1, -1);
        each(BonnetValley::light, "0", "0", DIGITS, 3, -2);
        each(BonnetValley::light, "0".repeat(19), "", DIGITS, 20, -20);
        each(BonnetValley::light, "0".repeat(20), "", "", 20, -21);
    }

    /** Of a sign at p that can't stand there first - p tells; without PEOPLE a law makes no difference, 0. */
    private static void rules(Read read, int first) {
        for (String ahead : new String[] {"", "-", "1+", "1*", "1<", "(", "-(", "1<(", "((((1)+"}) {
            int p = ahead.length();
            // behind a bracket that is open the text ends too early in any case
            long closed = has(ahead, '(') ? first - p - 1 : 0;
            each(read, ahead, "", c -> has(DIGITS + LETTERS, c) ? closed : first - (has("-(", c) ? p + 1 : p));
        }
        each(read, "((((", "", c -> first - (has(DIGITS + LETTERS + "-", c) ? 5 : 4));
        each(read, "1", "1", DIGITS + OPERATORS, 0, first - 1);
        each(read, "b", "1", OPERATORS, 0, first - 1);
        each(read, "123", "1", OPERATORS, 0, first - 3);
        each(read, "(1)", "1", OPERATORS, 0, first - 3);
        each(read, "1<2", "1", DIGITS + "+-*/", 0, first - 3);
        each(read, "(1", "", c -> c == ')' ? 0 : first - (has(DIGITS + OPERATORS, c) ? 3 : 2));
        each(read, "(1<2", "", c -> c == ')' ? 0 : first - (has(DIGITS + "+-*/", c) ? 5 : 4));
        each(read, "(1<2)", "1", OPERATORS, 0, first - 5);
    }

    private static void day() {
        each(BonnetValley::day, "", "", "nfgbp", -2, -1);
        each(BonnetValley::day, "n", "", DIGITS, 1, -2);
        each(BonnetValley::day, "n1", "", "nfgbp", -4, -3);
        // nobody is there to be turned, and nothing to be put
        for (String act : new String[] {"f", "g", "b"}) {
            each(BonnetValley::day, act, "0", DIGITS, 0, -2);
            each(BonnetValley::day, act + "0", "", DIGITS, 0, -3);
            each(BonnetValley::day, act + "00", "", "nfgbp", -5, -4);
        }
        each(BonnetValley::day, "p", "00", DIGITS, 0, -2);
        each(BonnetValley::day, "p0", "0", DIGITS, 0, -3);
        each(BonnetValley::day, "p00", "", DIGITS, 0, -4);
        each(BonnetValley::day, "p000", "", "nfgbp", -6, -5);
    }
}
