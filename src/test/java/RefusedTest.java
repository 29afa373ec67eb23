/**
 * The terms' sentences on refused calls and on questions, for every call of the face: refused ones change
 * nothing but THE TEXT, which a call that reads it empties; the ROW stays; questions change nothing.
 */
public final class RefusedTest {
    private static final int LEAST = Integer.MIN_VALUE;
    private static final int MOST = Integer.MAX_VALUE;

    public static void main(String[] args) {
        Check.sentence(0, "Refused calls answer NONE, or false, and change nothing but THE TEXT",
            RefusedTest::refused);
        Check.sentence(0, "THE TEXT, which a call that reads it empties", RefusedTest::texts);
        Check.sentence(0, "The ROW stays with NONE and with each number below 0 that tells why there is no answer",
            RefusedTest::withoutAnswer);
        Check.sentence(0, "a number below 0 that is meant as such comes with its ROW", RefusedTest::below);
        Check.sentence(0, "Questions change nothing", RefusedTest::questions);
        Check.sentence(9, "NoSuchElementException: none such, another what", RefusedTest::person);
        Check.sentence(10, "NoSuchElementException: likewise", RefusedTest::thing);
        Check.sentence(48, "NoSuchElementException: none such", RefusedTest::row);
        Check.sentence(1, "no PEOPLE, no THINGS", RefusedTest::nobody);
        Check.close("RefusedTest");
    }

    private static void refused() {
        texted("sign beyond 80", v -> v.sign(0x78787878));
        ones("end", (v, x) -> v.end(x) ? 1 : -1, -1, 1, LEAST, MOST);
        ones("hours", BonnetValley::hours, -1, 61, LEAST, MOST);
        twos("faces", BonnetValley::faces, 3, 0, -1, 0, 0, 8, 0, -1, LEAST, 0, MOST, 0, 0, LEAST, 0, MOST);
        twos("steps", BonnetValley::steps, 3, 0, -1, 0, 0, 8, 0, -1, LEAST, 0, MOST, 0, 0, LEAST, 0, MOST);
        twos("trims", BonnetValley::trims, 3, 0, -1, 0, 0, 5, 0, -1, LEAST, 0, MOST, 0, 0, LEAST, 0, MOST);
        twos("puts", BonnetValley::puts, 2, 0, -1, 0, 0, 12, 0, -1, LEAST, 0, MOST, 0, 0, LEAST, 0, MOST);
        ones("sees", (v, x) -> v.sees(x), 3, -1, LEAST, MOST);
        ones("seers", BonnetValley::seers, 12, -1, LEAST, MOST);
        ones("behind", BonnetValley::behind, 3, -1, LEAST, MOST);
        twos("learns", BonnetValley::learns, 3, 0, -1, 0, 0, 2, 0, -1, LEAST, 0, 0, MOST);
        ones("ahead", BonnetValley::ahead, -1, 100, LEAST, MOST);
        ones("gossip", BonnetValley::gossip, 3, -1, LEAST, MOST);
        twos("eighths", BonnetValley::eighths, 3, 0, -1, 0, 0, 12, 0, -1, LEAST, 0, 0, MOST);
        ones("best", BonnetValley::best, 3, -1, LEAST, MOST);
        twos("bears", BonnetValley::bears, 3, 0, -1, 0, 0, 12, 0, -1, LEAST, 0, 0, MOST);
        twos("back", BonnetValley::back, 12, 0, -1, 0, 0, 12, 0, -1, LEAST, 0, 0, MOST, 5, 12, -1, 5);
        twos("open", BonnetValley::open, 12, 0, -1, 0, 0, 12, 0, -1, LEAST, 0, 0, MOST, 5, 12, -1, 5);
        twos("heard", BonnetValley::heard, 3, 0, -1, 1, 0, 2, 0, -1, LEAST, 0, 0, MOST);
        twos("cock", BonnetValley::cock, -1, 2, 61, 2, 5, 1, 5, 10, LEAST, 2, MOST, 9, 5, LEAST, 5, MOST);
        ones("rests", BonnetValley::rests, -1, 21, LEAST, MOST);
        twos("years", BonnetValley::years, 1, 0, 1, -1, 1, 61, 1, LEAST, 1, MOST);
        ones("keep", (v, x) -> v.keep(x) ? 1 : -1, -1, 3, LEAST, MOST);
        ones("again", (v, x) -> v.again(x) ? 1 : -1, -1, 3, 1, LEAST, MOST);
        storms();
        sheets();
    }

    private static void storms() {
        int[][] bad = {{12, 0, 0}, {-1, 0, 0}, {0, 9, 0}, {0, -1, 0}, {0, 0, 11}, {0, 0, -1}, {MOST, MOST, MOST}};
        for (int[] b : bad) {
            Twin.changesNothing("storm(" + b[0] + ", " + b[1] + ", " + b[2] + ")", v -> v.storm(b[0], b[1], b[2]), -1);
        }
    }

    private static void sheets() {
        int[][] bad = {{-1, 1}, {4, 1}, {0, 9}, {1, 9}, {2, 9}, {3, 9}, {4, -1}, {LEAST, LEAST}, {MOST, MOST}};
        for (int[] b : bad) {
            Twin.changesNothing("sheet(" + b[0] + ", " + b[1] + ", 1, 1)", v -> v.sheet(b[0], b[1], 1, 1), -1);
        }
        for (int kind = 0; kind < 3; kind++) {
            int k = kind;
            Twin.changesNothing("sheet(" + kind + ", -1, 1, 1)", v -> v.sheet(k, -1, 1, 1), -2);
            Twin.changesNothing("sheet(" + kind + ", least, 1, 1)", v -> v.sheet(k, LEAST, 1, 1), -2);
        }
    }

    interface OfOne {
        long of(BonnetValley v, int x);
    }

    interface OfTwo {
        long of(BonnetValley v, int x, int y);
    }

    private static void ones(String name, OfOne call, int... bad) {
        for (int x : bad) {
            Twin.changesNothing(name + "(" + x + ")", v -> call.of(v, x), -1);
        }
    }

    private static void twos(String name, OfTwo call, int... bad) {
        for (int i = 0; i + 1 < bad.length; i += 2) {
            int x = bad[i];
            int y = bad[i + 1];
            Twin.changesNothing(name + "(" + x + ", " + y + ")", v -> call.of(v, x, y), -1);
        }
    }

    /** A refused sign() leaves THE TEXT, which is then read as it was. */
    private static void texted(String name, Twin.Call call) {
        Check c = new Check();
        c.text("34............" + ".".repeat(64));
        Check.due(name, call.of(c.v), -1);
        Check.due(name + ": signs of THE TEXT", c.v.count(12), 78);
        c.v.end(14);
        Check.due(name + ": THE TEXT", c.v.valley(), 12);
    }

    private static void texts() {
        read("valley", "34....", BonnetValley::valley, -7);
        read("people", "0000;00x", BonnetValley::people, -8);
        read("things", "00;0x", BonnetValley::things, -5);
        read("light", "12x", BonnetValley::light, -3);
        read("rule", "1+", BonnetValley::rule, -3);
        read("law", "1+", BonnetValley::law, -10002);
        read("day", "n1f0", BonnetValley::day, -5);
        read("an empty valley", "", BonnetValley::valley, -1);
        read("no light", "", BonnetValley::light, -1);
        read("people, an empty text", "", BonnetValley::people, 0);
        read("things, an empty text", "", BonnetValley::things, 0);
        read("80 signs", "0".repeat(80), BonnetValley::light, -21);
        read("80 signs", "0".repeat(80), BonnetValley::rule, -4);
        read("80 signs", "-".repeat(80), BonnetValley::law, -10040);
        read("80 signs", "0".repeat(80), BonnetValley::people, -5);
        read("80 signs", "0".repeat(80), BonnetValley::things, -3);
        read("80 signs", "3".repeat(80), BonnetValley::valley, -3);
        read("80 signs", "n0".repeat(40), BonnetValley::day, -61);
    }

    /** THE TEXT is empty then (as it is in the twin without that call), and nothing else is changed. */
    private static void read(String name, String text, Twin.Call call, long want) {
        Twin.changesNothing(name + " " + text, v -> Twin.read(v, text, call), want);
    }

    private static void withoutAnswer() {
        Twin.changesNothing("steps: a rock", v -> v.steps(1, 2), -2);
        Twin.changesNothing("steps: no FIELD", v -> v.steps(0, 0), -2);
        Twin.changesNothing("puts: it is there", v -> v.puts(1, 11), -2);
        Twin.changesNothing("back: an end is a rock", v -> v.back(5, 0), -2);
        Twin.changesNothing("back: an end is a rock", v -> v.back(0, 5), -2);
        Twin.changesNothing("open: an end is a rock", v -> v.open(5, 5), -2);
        Twin.changesNothing("open: an end is a rock", v -> v.open(0, 5), -2);
        Check dark = Check.made("33.........", "0000;2200", "02;20");
        dark.light("0", 1);
        dark.v.sees(0);
        Check.due("learns", dark.v.learns(0, 0), -2);
        Check.due("all", dark.v.all(), -2);
        Check.due("eighths", dark.v.eighths(0, 8), -2);
        Check.due("turned", dark.v.turned(), -2);
        Check.due("bears", dark.v.bears(0, 8), -2);
        dark.v.heard(0, 1);
        dark.v.heard(0, 0);
        Check.due("asks", dark.v.asks(), -2);
        Check.due("sheet", dark.v.sheet(2, -1, 0, 0), -2);
        Check.due("sheet", dark.v.sheet(3, 0, 0, 0), -3);
        dark.row("sees(0)", 1, 0);
        Check nobody = new Check();
        nobody.v.hidden();
        Check.due("widest", nobody.v.widest(), -2);
        nobody.row("hidden", 9, 0);
    }

    private static void below() {
        Check c = Check.made("33.........", "1100", "");
        c.v.hidden();
        c.law("0", -8);
        c.row("law 0", 1, 9);
        // -1 is meant as such here: one FIELD fewer, which no refused call is
        Check d = Check.made("33.........", "0004", "");
        d.rule("1", 0);
        d.v.faces(0, 2);
        d.law("0", -1);
        d.row("law 0", 1, 2);
        Check e = Check.made("33.........", "0000", "00");
        e.v.hours(1);
        Check.due("all: NONE in the ROW", e.v.all(), 0);
        e.row("all", -1);
    }

    private static void questions() {
        for (int i = 0; i < 3; i++) {
            int who = i;
            Twin.asksOnly("sees", v -> v.sees(who));
            Twin.asksOnly("behind", v -> v.behind(who));
            Twin.asksOnly("gossip", v -> v.gossip(who));
            Twin.asksOnly("best", v -> v.best(who));
            Twin.asksOnly("person", v -> v.person(who, 5));
            Twin.asksOnly("eighths", v -> v.eighths(who, v.person(who, 0)));
            Twin.asksOnly("bears", v -> v.bears(who, v.person(who, 0)));
        }
        Twin.asksOnly("learns", v -> v.learns(0, 0));
        Twin.asksOnly("thing", v -> v.thing(0, 2));
        Twin.asksOnly("seers", v -> v.seers(3));
        Twin.asksOnly("hidden", BonnetValley::hidden);
        Twin.asksOnly("pairs", BonnetValley::pairs);
        Twin.asksOnly("widest", BonnetValley::widest);
        Twin.asksOnly("watch", BonnetValley::watch);
        Twin.asksOnly("all or none", v -> Math.abs(v.all()));
        Twin.asksOnly("turned or none", v -> Math.abs(v.turned()));
        Twin.asksOnly("ahead", v -> v.ahead(99));
        Twin.asksOnly("back", v -> v.back(0, 1));
        Twin.asksOnly("open", v -> v.open(0, 11));
        Twin.asksOnly("lost", BonnetValley::lost);
        Twin.asksOnly("asks or none", v -> Math.abs(v.asks()));
        Twin.asksOnly("storm", v -> v.storm(2, 2, 5));
        Twin.asksOnly("cock", v -> v.cock(60, 9));
        Twin.asksOnly("rests", v -> v.rests(20));
        Twin.asksOnly("years", v -> v.years(1, 60));
        Twin.asksOnly("law", v -> Math.abs(Twin.read(v, "9", BonnetValley::law)));
        Twin.asksOnly("an empty law", v -> Math.abs(Twin.read(v, "", BonnetValley::law)));
        for (int what = 0; what <= 12; what++) {
            int w = what;
            Twin.asksOnly("count", v -> v.count(w));
            Twin.changesNothing("count of another", v -> v.count(13 + w), -100);
        }
        Twin.asksOnly("row", v -> v.row(0));
    }

    private static void person() {
        int[][] bad = {{3, 0}, {-1, 0}, {0, 6}, {0, -1}, {LEAST, 0}, {MOST, 0}, {0, LEAST}, {0, MOST}, {8, 6}};
        for (int[] b : bad) {
            Twin.throwsAndChangesNothing("person(" + b[0] + ", " + b[1] + ")", v -> v.person(b[0], b[1]));
        }
        Check full = Check.made("33.........", "0000;0000;0000;0000;0000;0000;0000;1100", "");
        Check.due("the eighth", full.v.person(7, 0), 4);
        Check.throwsNoSuch("a ninth", () -> full.v.person(8, 0));
    }

    private static void thing() {
        int[][] bad = {{2, 0}, {-1, 0}, {0, 3}, {0, -1}, {LEAST, 0}, {MOST, 0}, {0, LEAST}, {0, MOST}, {8, 3}};
        for (int[] b : bad) {
            Twin.throwsAndChangesNothing("thing(" + b[0] + ", " + b[1] + ")", v -> v.thing(b[0], b[1]));
        }
        Check full = Check.made("33.........", "", "00;00;00;00;00;00;00;11");
        Check.due("the eighth", full.v.thing(7, 0), 4);
        Check.throwsNoSuch("a ninth", () -> full.v.thing(8, 0));
    }

    private static void row() {
        int[] bad = {3, -1, LEAST, MOST, 49, 48};
        for (int x : bad) {
            Twin.throwsAndChangesNothing("row(" + x + ")", v -> v.row(x));
        }
        Check c = new Check();
        Check.throwsNoSuch("row(0) at first", () -> c.v.row(0));
        // a shorter ROW leaves nothing of a longer one
        c.v.back(0, 8);
        c.row("three", 0, 4, 8);
        c.v.lost();
        c.row("one", 9);
        c.v.ahead(5);
        c.row("none");
    }

    /** Of a new object every call that names one of PEOPLE or a THING is refused. */
    private static void nobody() {
        Check c = new Check();
        Check.due("PEOPLE", c.v.count(2), 0);
        Check.due("THINGS", c.v.count(3), 0);
        Check.throwsNoSuch("person(0, 0)", () -> c.v.person(0, 0));
        Check.throwsNoSuch("thing(0, 0)", () -> c.v.thing(0, 0));
        long[] got = {
            c.v.faces(0, 0), c.v.steps(0, 0), c.v.trims(0, 0), c.v.puts(0, 0), c.v.sees(0), c.v.behind(0),
            c.v.learns(0, 0), c.v.gossip(0), c.v.eighths(0, 0), c.v.best(0), c.v.bears(0, 0), c.v.heard(0, 0),
            c.v.undo()
        };
        for (int i = 0; i < got.length; i++) {
            Check.due("refused call " + i, got[i], -1);
        }
    }
}
