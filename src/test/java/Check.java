import java.nio.charset.StandardCharsets;
import java.util.NoSuchElementException;

/** What the tests share: a valley under test, texts put into it, answers compared with what is due. */
final class Check {
    private static int wrong = 0;
    private static int checks = 0;
    private static String about = "";

    final BonnetValley v = new BonnetValley();

    static void due(String what, long got, long want) {
        checks++;
        if (got != want) {
            wrong++;
            System.out.println(about + what + " answered " + got + ", due is " + want);
        }
    }

    static void due(String what, boolean got, boolean want) {
        due(what, got ? 1 : 0, want ? 1 : 0);
    }

    /** Ends the test: with code 1 if an answer was not as due. */
    static void close(String name) {
        System.out.println(name + ": " + checks + " answers, " + wrong + " not as due");
        if (wrong != 0 || checks == 0) {
            System.exit(1);
        }
    }

    /**
     * A sentence of the document, as it stands there (of promise 0: of the terms), with a test of its own
     * that would fail if the sentence did not hold.
     */
    static void sentence(int promise, String words, Runnable test) {
        int ahead = checks;
        about = (promise == 0 ? "Terms" : "Promise " + promise) + ", '" + words + "': ";
        try {
            test.run();
        } catch (RuntimeException e) {
            due("what was thrown, " + e + ",", 1, 0);
        }
        due("whether there is a test", checks > ahead, true);
        due("whether the document says so there", Document.says(promise, words), true);
        about = "";
    }

    interface Call {
        long answer();
    }

    static void throwsNoSuch(String what, Call call) {
        boolean thrown = false;
        try {
            call.answer();
        } catch (NoSuchElementException e) {
            thrown = e.getClass() == NoSuchElementException.class;
        }
        due(what + " throws", thrown, true);
    }

    /** THE TEXT becomes s; it has to be empty, as it is behind each call that reads it. */
    Check text(String s) {
        put(v, s);
        return this;
    }

    static void put(BonnetValley v, String s) {
        byte[] b = s.getBytes(StandardCharsets.ISO_8859_1);
        for (int i = 0; i < b.length; i += 4) {
            int x = 0;
            for (int j = 0; j < 4; j++) {
                x = x << 8 | (i + j < b.length ? b[i + j] & 255 : 0);
            }
            v.sign(x);
        }
        v.end(b.length);
    }

    /** The ROW is these numbers and no more. */
    void row(String what, long... want) {
        due(what + ": numbers of the ROW", v.count(11), want.length);
        for (int i = 0; i < want.length && i < v.count(11); i++) {
            due(what + ": row(" + i + ")", v.row(i), want[i]);
        }
        throwsNoSuch(what + ": row(" + want.length + ")", () -> v.row(want.length));
    }

    /** The call answers so for each of these arguments. */
    interface OfOne {
        long answer(int x);
    }

    static void each(String name, OfOne call, long want, int... arguments) {
        for (int x : arguments) {
            due(name + "(" + x + ")", call.answer(x), want);
        }
    }

    static void eachThrows(String name, OfOne call, int... arguments) {
        for (int x : arguments) {
            throwsNoSuch(name + "(" + x + ")", () -> call.answer(x));
        }
    }

    void valley(String s, long want) {
        due("valley " + s, text(s).v.valley(), want);
        due("valley " + s + " empties THE TEXT", v.count(12), 0);
    }

    void people(String s, long want) {
        due("people " + s, text(s).v.people(), want);
        due("people " + s + " empties THE TEXT", v.count(12), 0);
    }

    void things(String s, long want) {
        due("things " + s, text(s).v.things(), want);
        due("things " + s + " empties THE TEXT", v.count(12), 0);
    }

    void light(String s, long want) {
        due("light " + s, text(s).v.light(), want);
        due("light " + s + " empties THE TEXT", v.count(12), 0);
    }

    void rule(String s, long want) {
        due("rule " + s, text(s).v.rule(), want);
        due("rule " + s + " empties THE TEXT", v.count(12), 0);
    }

    void law(String s, long want) {
        due("law " + s, text(s).v.law(), want);
        due("law " + s + " empties THE TEXT", v.count(12), 0);
    }

    void day(String s, long want) {
        due("day " + s, text(s).v.day(), want);
        due("day " + s + " empties THE TEXT", v.count(12), 0);
    }

    /** FACING, BRIM and the like of all PEOPLE, by their number. */
    void people(int what, long... want) {
        due("PEOPLE", v.count(2), want.length);
        for (int i = 0; i < want.length; i++) {
            due("person(" + i + ", " + what + ")", v.person(i, what), want[i]);
        }
    }

    /** A fresh valley with people and things in it. */
    static Check made(String valley, String people, String things) {
        Check c = new Check();
        put(c.v, valley);
        due("made " + valley, c.v.valley() > 0, true);
        put(c.v, people);
        due("made with " + people, c.v.people() >= 0, true);
        put(c.v, things);
        due("made with " + things, c.v.things() >= 0, true);
        return c;
    }
}
