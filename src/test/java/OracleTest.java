import java.util.ArrayList;
import java.util.List;
import java.util.NoSuchElementException;
import java.util.Random;

/** Runs of calls drawn by seeds, each answered by the class and by the Oracle: all promises at once. */
public final class OracleTest {
    private static final int RUNS = 3000;
    /** What an object answers after that is free. */
    private static final int CALLS = 512;
    /** As many as one more turn of a run can need: a text of 80 signs, a call, and a ROW of all FIELDS. */
    private static final int DEAREST = 80;

    private final Random random;
    private final BonnetValley v = new BonnetValley();
    private final Oracle o = new Oracle();
    private final List<String> log = new ArrayList<>();
    private boolean differs = false;
    private int used = 0;

    private OracleTest(long seed) {
        random = new Random(seed);
    }

    public static void main(String[] args) {
        int runs = args.length > 0 ? Integer.parseInt(args[0]) : RUNS;
        int start = args.length > 1 ? Integer.parseInt(args[1]) : 0;
        int wrong = 0;
        for (int seed = start; seed < start + runs; seed++) {
            OracleTest t = new OracleTest(seed);
            t.start();
            while (t.used + DEAREST <= CALLS && !t.differs) {
                t.call();
            }
            if (t.differs) {
                wrong++;
                System.out.println("seed " + seed + ":");
                t.log.forEach(line -> System.out.println("  " + line));
            }
        }
        System.out.println("OracleTest: " + runs + " runs, " + wrong + " not as due");
        if (wrong != 0) {
            System.exit(1);
        }
    }

    interface Call {
        long answer();
    }

    private static String outcome(Call call) {
        try {
            return "" + call.answer();
        } catch (NoSuchElementException e) {
            return "throws";
        }
    }

    private void both(String name, Call mine, Call due) {
        String got = outcome(mine);
        String want = outcome(due);
        used += 2 + o.told.size();
        log.add(name + " " + got + (got.equals(want) ? "" : ", due is " + want));
        differs |= !got.equals(want);
        if (v.count(11) != o.told.size()) {
            log.add("numbers of the ROW: " + v.count(11) + ", due is " + o.told);
            differs = true;
            return;
        }
        for (int i = 0; i < o.told.size(); i++) {
            if (v.row(i) != o.told.get(i)) {
                log.add("row(" + i + "): " + v.row(i) + ", due is " + o.told);
                differs = true;
            }
        }
    }

    private static long bit(boolean b) {
        return b ? 1 : 0;
    }

    private int below(int n) {
        return random.nextInt(n);
    }

    /** Mostly 0 .. n, now and then a number beside or far from these. */
    private int about(int n) {
        if (below(12) != 0) {
            return below(n + 1);
        }
        int[] odd = {-1, n + 1, Integer.MIN_VALUE, Integer.MAX_VALUE, random.nextInt(), n, 0};
        return odd[below(odd.length)];
    }

    private int person() {
        return below(20) == 0 ? about(7) : o.world.people.isEmpty() ? 0 : below(o.world.people.size());
    }

    private int thing() {
        return below(20) == 0 ? about(7) : o.world.things.isEmpty() ? 0 : below(o.world.things.size());
    }

    private int field() {
        return below(20) == 0 ? about(o.rows * o.cols) : below(o.rows * o.cols);
    }

    private void text(String s) {
        log.add("text " + s);
        v.end(0);
        Check.put(v, s);
        used += 2 + (s.length() + 3) / 4;
        o.text.setLength(0);
        o.text.append(s);
    }

    /** One sign is put wrong, taken out or put in, now and then. */
    private String spoilt(String s, String signs) {
        if (below(8) != 0) {
            return s;
        }
        StringBuilder b = new StringBuilder(s);
        int p = below(s.length() + 1);
        char c = signs.charAt(below(signs.length()));
        switch (below(4)) {
            case 0: b.insert(p, c); break;
            case 1: b.append(c); break;
            case 2: b.setLength(p); break;
            default:
                if (p < s.length()) {
                    b.setCharAt(p, c);
                }
        }
        return b.length() > 80 ? b.substring(0, 80) : b.toString();
    }

    private String valleyText() {
        int r = 3 + below(5);
        int c = 3 + below(5);
        int share = below(4);
        StringBuilder s = new StringBuilder().append(r).append(c);
        for (int i = 0; i < r * c; i++) {
            s.append(below(10) < share ? '#' : '.');
        }
        return spoilt(s.toString(), "#.34x");
    }

    private String linesText(int width, int room) {
        int n = 1 + below(below(6) == 0 ? 9 : Math.max(1, room));
        StringBuilder s = new StringBuilder();
        for (int i = 0; i < n; i++) {
            int row = below(o.rows);
            int col = below(o.cols);
            for (int j = 0; j < 20 && width == 4 && o.rock[row][col]; j++) {
                row = below(o.rows);
                col = below(o.cols);
            }
            s.append(i > 0 ? ";" : "").append(row).append(col);
            if (width == 4) {
                s.append(below(8)).append(below(5));
            }
        }
        return spoilt(s.toString(), "0123456789;x ");
    }

    private String ruleText() {
        StringBuilder s = new StringBuilder();
        expression(s, 0, 3);
        String t = s.length() > 44 ? s.substring(0, 44) : s.toString();
        return spoilt(t, "blkfrcnp0123456789()<>=+-*/xz");
    }

    private void expression(StringBuilder s, int depth, int left) {
        int terms = 1 + below(3);
        int compare = below(3) == 0 ? below(terms) : -1;
        for (int i = 0; i < terms; i++) {
            if (i > 0) {
                s.append(i == compare ? "<>=".charAt(below(3)) : "+-*/+-*/".charAt(below(8)));
            }
            while (below(6) == 0) {
                s.append('-');
            }
            if (left > 0 && below(4) == 0) {
                s.append('(');
                expression(s, depth + 1, below(8) == 0 ? left : left - 1);
                s.append(')');
            } else if (below(3) == 0) {
                s.append(below(2) == 0 ? below(10) : below(1100));
            } else {
                s.append("blkfrcnpbl".charAt(below(10)));
            }
        }
    }

    private String dayText() {
        StringBuilder s = new StringBuilder();
        int n = below(below(5) == 0 ? 26 : 6);
        for (int i = 0; i < n; i++) {
            switch (below(5)) {
                case 0: s.append('n').append(below(4)); break;
                case 1: s.append('f').append(below(3)).append(below(8)); break;
                case 2: s.append('g').append(below(3)).append(below(8)); break;
                case 3: s.append('b').append(below(3)).append(below(5)); break;
                default: s.append('p').append(below(3)).append(below(o.rows + 1)).append(below(o.cols));
            }
        }
        return spoilt(s.length() > 70 ? s.substring(0, 70) : s.toString(), "nfgbp0123456789x");
    }

    private void readValley() {
        text(valleyText());
        both("valley()", v::valley, o::valley);
    }

    private void readPeople() {
        text(below(8) == 0 ? "" : linesText(4, Math.min(4, 8 - o.world.people.size())));
        both("people()", v::people, o::people);
    }

    private void readThings() {
        text(below(8) == 0 ? "" : linesText(2, Math.min(4, 8 - o.world.things.size())));
        both("things()", v::things, o::things);
    }

    private void readRule() {
        text(below(5) == 0 ? "" : ruleText());
        both("rule()", v::rule, o::rule);
    }

    private void start() {
        readValley();
        readPeople();
        readThings();
        if (below(2) == 0) {
            readRule();
        }
    }

    private void call() {
        int group = below(20);
        if (group == 0) {
            texts();
        } else if (group < 7) {
            acts();
        } else if (group < 12) {
            looks();
        } else if (group < 15) {
            learning();
        } else if (group < 18) {
            searches();
        } else {
            others();
        }
    }

    private void texts() {
        int x = random.nextInt();
        switch (below(11)) {
            case 0:
                if (below(3) == 0) {
                    readValley();
                }
                break;
            case 1: readPeople(); break;
            case 2: readThings(); break;
            case 3:
                text(spoilt("9876543210".substring(below(9)), "0123x"));
                both("light()", v::light, o::light);
                break;
            case 4: readRule(); break;
            case 5: both("sign(" + x + ")", () -> v.sign(x), () -> o.sign(x)); break;
            case 6:
                int n = about(12);
                both("end(" + n + ")", () -> bit(v.end(n)), () -> bit(o.end(n)));
                break;
            case 7: both("light()", v::light, o::light); break;
            case 8: both("law()", v::law, o::law); break;
            case 9: both("day()", v::day, o::day); break;
            default: both("people()", v::people, o::people);
        }
    }

    private void acts() {
        int i = person();
        int t = thing();
        int f = field();
        int w = about(7);
        int b = about(4);
        switch (below(9)) {
            case 0:
                int n = below(4) == 0 ? about(60) : about(3);
                both("hours(" + n + ")", () -> v.hours(n), () -> o.hours(n));
                break;
            case 1: both("faces(" + i + ", " + w + ")", () -> v.faces(i, w), () -> o.faces(i, w)); break;
            case 2:
            case 3: both("steps(" + i + ", " + w + ")", () -> v.steps(i, w), () -> o.steps(i, w)); break;
            case 4: both("trims(" + i + ", " + b + ")", () -> v.trims(i, b), () -> o.trims(i, b)); break;
            case 5: both("puts(" + t + ", " + f + ")", () -> v.puts(t, f), () -> o.puts(t, f)); break;
            case 6:
                text(dayText());
                both("day()", v::day, o::day);
                break;
            case 7: both("undo()", v::undo, o::undo); break;
            default: keeping();
        }
    }

    private void keeping() {
        int i = about(2);
        int kind = about(3);
        int n = about(8);
        int f = below(3) == 0 ? random.nextInt() : about(300);
        int step = below(3) == 0 ? random.nextInt() : below(7) - 3;
        switch (below(5)) {
            case 0:
            case 1: both("keep(" + i + ")", () -> bit(v.keep(i)), () -> bit(o.keep(i))); break;
            case 2: both("again(" + i + ")", () -> bit(v.again(i)), () -> bit(o.again(i))); break;
            default:
                String name = "sheet(" + kind + ", " + n + ", " + f + ", " + step + ")";
                both(name, () -> v.sheet(kind, n, f, step), () -> o.sheet(kind, n, f, step));
        }
    }

    private void looks() {
        int i = person();
        int t = thing();
        int f = field();
        int w = about(5);
        switch (below(10)) {
            case 0: both("sees(" + i + ")", () -> v.sees(i), () -> o.sees(i)); break;
            case 1: both("seers(" + f + ")", () -> v.seers(f), () -> o.seers(f)); break;
            case 2: both("hidden()", v::hidden, o::hidden); break;
            case 3: both("pairs()", v::pairs, o::pairs); break;
            case 4: both("behind(" + i + ")", () -> v.behind(i), () -> o.behind(i)); break;
            case 5: both("widest()", v::widest, o::widest); break;
            case 6: both("watch()", v::watch, o::watch); break;
            case 7: both("person(" + i + ", " + w + ")", () -> v.person(i, w), () -> o.person(i, w)); break;
            case 8: both("thing(" + t + ", " + w + ")", () -> v.thing(t, w), () -> o.thing(t, w)); break;
            default:
                int c = about(12);
                both("count(" + c + ")", () -> v.count(c), () -> o.count(c));
        }
    }

    private void learning() {
        int i = person();
        int t = thing();
        int n = below(3) == 0 ? about(99) : about(9);
        switch (below(8)) {
            case 0: both("learns(" + i + ", " + t + ")", () -> v.learns(i, t), () -> o.learns(i, t)); break;
            case 1: both("all()", v::all, o::all); break;
            case 2: both("ahead(" + n + ")", () -> v.ahead(n), () -> o.ahead(n)); break;
            case 3: both("gossip(" + i + ")", () -> v.gossip(i), () -> o.gossip(i)); break;
            case 4: both("heard(" + i + ", 1)", () -> v.heard(i, 1), () -> o.heard(i, 1)); break;
            case 5:
                int is = about(1);
                both("heard(" + i + ", " + is + ")", () -> v.heard(i, is), () -> o.heard(i, is));
                break;
            case 6: both("lost()", v::lost, o::lost); break;
            default:
                if (below(5) == 0) {
                    both("forget()", v::forget, o::forget);
                } else {
                    both("asks()", v::asks, o::asks);
                }
        }
    }

    private void searches() {
        int i = person();
        int f = field();
        int g = field();
        switch (below(6)) {
            case 0: both("eighths(" + i + ", " + f + ")", () -> v.eighths(i, f), () -> o.eighths(i, f)); break;
            case 1:
                if (o.world.people.size() <= 5) {
                    both("turned()", v::turned, o::turned);
                }
                break;
            case 2: both("best(" + i + ")", () -> v.best(i), () -> o.best(i)); break;
            case 3: both("bears(" + i + ", " + f + ")", () -> v.bears(i, f), () -> o.bears(i, f)); break;
            case 4: both("back(" + f + ", " + g + ")", () -> v.back(f, g), () -> o.back(f, g)); break;
            default: both("open(" + f + ", " + g + ")", () -> v.open(f, g), () -> o.open(f, g));
        }
    }

    private void others() {
        int f = field();
        int k = about(8);
        int p = about(10);
        int n = about(60);
        int seed = random.nextInt();
        switch (below(6)) {
            case 0:
                String name = "storm(" + f + ", " + k + ", " + p + ")";
                both(name, () -> v.storm(f, k, p), () -> o.storm(f, k, p));
                break;
            case 1:
                int m = about(9);
                both("cock(" + n + ", " + m + ")", () -> v.cock(n, m), () -> o.cock(n, m));
                break;
            case 2:
                text(below(6) == 0 ? "" : ruleText());
                both("law()", v::law, o::law);
                break;
            case 3:
                int x = about(20);
                both("rests(" + x + ")", () -> v.rests(x), () -> o.rests(x));
                break;
            case 4: both("years(" + seed + ", " + n + ")", () -> v.years(seed, n), () -> o.years(seed, n)); break;
            default: both("row(" + k + ")", () -> v.row(k), () -> o.row(k));
        }
    }
}
