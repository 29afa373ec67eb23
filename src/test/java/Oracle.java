import java.math.BigInteger;
import java.util.ArrayList;
import java.util.Arrays;
import java.util.Collections;
import java.util.HashMap;
import java.util.List;
import java.util.Map;
import java.util.NoSuchElementException;
import java.util.TreeSet;

/**
 * The document a second time, in the plainest and slowest form: no tables, no bits kept, everything
 * looked for by trying all. It shares no code with the class, so that a slip in one shows as a difference.
 */
final class Oracle {
    static final int NONE = -1;

    static final class Person {
        int row, col, facing, brim;
        TreeSet<Integer> knows = new TreeSet<>();

        Person copy() {
            Person p = new Person();
            p.row = row;
            p.col = col;
            p.facing = facing;
            p.brim = brim;
            p.knows = new TreeSet<>(knows);
            return p;
        }
    }

    static final class World {
        List<Person> people = new ArrayList<>();
        List<Integer> things = new ArrayList<>();
        int hour = 0;

        World copy() {
            World w = new World();
            for (Person p : people) {
                w.people.add(p.copy());
            }
            w.things = new ArrayList<>(things);
            w.hour = hour;
            return w;
        }
    }

    int rows = 3;
    int cols = 3;
    boolean[][] rock = new boolean[3][3];
    World world = new World();
    String light = "9";
    String rule = "";
    StringBuilder text = new StringBuilder();
    List<Long> told = new ArrayList<>();
    List<World> undos = new ArrayList<>();
    World[] kept = new World[3];
    List<TreeSet<Integer>> possible = new ArrayList<>();

    // ---- texts

    int sign(int v) {
        if (text.length() + 4 > 80) {
            return NONE;
        }
        text.append((char) (v >>> 24)).append((char) (v >> 16 & 255));
        text.append((char) (v >> 8 & 255)).append((char) (v & 255));
        return text.length();
    }

    boolean end(int n) {
        if (n < 0 || n > text.length()) {
            return false;
        }
        text.setLength(n);
        return true;
    }

    private String takeText() {
        String s = text.toString();
        text.setLength(0);
        return s;
    }

    private static boolean digit(char c) {
        return c >= '0' && c <= '9';
    }

    int valley() {
        String s = takeText();
        for (int p = 0; p < 2; p++) {
            if (p >= s.length() || s.charAt(p) < '3' || s.charAt(p) > '7') {
                return -1 - p;
            }
        }
        int r = s.charAt(0) - '0';
        int c = s.charAt(1) - '0';
        for (int p = 2; p < 2 + r * c; p++) {
            if (p >= s.length() || ".#".indexOf(s.charAt(p)) < 0) {
                return -1 - p;
            }
        }
        if (s.length() > 2 + r * c) {
            return -1 - (2 + r * c);
        }
        rows = r;
        cols = c;
        rock = new boolean[r][c];
        for (int i = 0; i < r * c; i++) {
            rock[i / c][i % c] = s.charAt(2 + i) == '#';
        }
        world = new World();
        undos.clear();
        kept = new World[3];
        possible.clear();
        return r * c;
    }

    /** Whether s could be the beginning of a text of LINES; all is true if it could be a whole one. */
    private boolean linesBegin(String s, int width, int room, boolean all) {
        if (s.length() > 8 * width + 7) {
            return false;
        }
        String[] parts = s.split(";", -1);
        for (int i = 0; i < parts.length; i++) {
            String part = parts[i];
            boolean last = i == parts.length - 1;
            if (part.length() > width || (!last || all) && part.length() < width) {
                return false;
            }
            if (i >= room && part.length() > 0) {
                return false;
            }
            for (int j = 0; j < part.length(); j++) {
                int bound = j == 0 ? rows : j == 1 ? cols : j == 2 ? 8 : 5;
                if (!digit(part.charAt(j)) || part.charAt(j) - '0' >= bound) {
                    return false;
                }
            }
            boolean placed = width == 4 && part.length() > 1;
            if (placed && rock[part.charAt(0) - '0'][part.charAt(1) - '0']) {
                return false;
            }
        }
        return true;
    }

    private int lines(String s, int width, int room) {
        if (s.isEmpty()) {
            return 0;
        }
        for (int n = 1; n <= s.length(); n++) {
            if (!linesBegin(s.substring(0, n), width, room, false)) {
                return -n;
            }
        }
        if (!linesBegin(s, width, room, true)) {
            return -1 - s.length();
        }
        return s.split(";").length;
    }

    private void come() {
        undos.clear();
        kept = new World[3];
    }

    int people() {
        String s = takeText();
        int n = lines(s, 4, 8 - world.people.size());
        if (n > 0) {
            for (String part : s.split(";")) {
                Person p = new Person();
                p.row = part.charAt(0) - '0';
                p.col = part.charAt(1) - '0';
                p.facing = part.charAt(2) - '0';
                p.brim = part.charAt(3) - '0';
                world.people.add(p);
            }
            come();
        }
        return n;
    }

    int things() {
        String s = takeText();
        int n = lines(s, 2, 8 - world.things.size());
        if (n > 0) {
            for (String part : s.split(";")) {
                world.things.add((part.charAt(0) - '0') * cols + part.charAt(1) - '0');
            }
            come();
        }
        return n;
    }

    int light() {
        String s = takeText();
        if (s.isEmpty()) {
            return -1;
        }
        for (int p = 0; p < s.length(); p++) {
            if (p >= 20 || !digit(s.charAt(p))) {
                return -1 - p;
            }
        }
        light = s;
        return s.length();
    }

    /** A reader that goes down by the grammar, reckons as it goes, and stops at the first bad sign. */
    private static final class Reader {
        final String s;
        final Map<Character, Integer> given;
        int p = 0;
        int bad = -1;

        Reader(String s, Map<Character, Integer> given) {
            this.s = s;
            this.given = given;
        }

        char look() {
            return p < s.length() && p < 40 ? s.charAt(p) : 0;
        }

        void fail() {
            if (bad < 0) {
                bad = p;
            }
        }

        int expression(int depth) {
            int a = sum(depth);
            if (bad < 0 && look() != 0 && "<>=".indexOf(look()) >= 0) {
                char op = look();
                p++;
                int b = sum(depth);
                return (op == '<' ? a < b : op == '>' ? a > b : a == b) ? 1 : 0;
            }
            return a;
        }

        int sum(int depth) {
            int a = product(depth);
            while (bad < 0 && (look() == '+' || look() == '-')) {
                char op = look();
                p++;
                int b = product(depth);
                a = op == '+' ? a + b : a - b;
            }
            return a;
        }

        int product(int depth) {
            int a = signed(depth);
            while (bad < 0 && (look() == '*' || look() == '/')) {
                char op = look();
                p++;
                int b = signed(depth);
                a = op == '*' ? a * b : b == 0 ? 0 : a / b;
            }
            return a;
        }

        int signed(int depth) {
            if (look() == '-') {
                p++;
                return -signed(depth);
            }
            return thing(depth);
        }

        int thing(int depth) {
            if (bad >= 0) {
                return 0;
            }
            char c = look();
            if (digit(c)) {
                int x = 0;
                for (int i = 0; i < 3 && digit(look()); i++) {
                    x = x * 10 + look() - '0';
                    p++;
                }
                return x;
            }
            if (c == '(' && depth < 4) {
                p++;
                int x = expression(depth + 1);
                if (bad < 0 && look() == ')') {
                    p++;
                } else {
                    fail();
                }
                return x;
            }
            if (c != 0 && given.containsKey(c)) {
                p++;
                return given.get(c);
            }
            fail();
            return 0;
        }
    }

    private static Map<Character, Integer> letters(int... values) {
        Map<Character, Integer> m = new HashMap<>();
        for (int i = 0; i < 8; i++) {
            m.put("blkfrcnp".charAt(i), i < values.length ? values[i] : 0);
        }
        return m;
    }

    private static int badSignOf(String s) {
        if (s.isEmpty()) {
            return -1;
        }
        Reader r = new Reader(s, letters());
        r.expression(0);
        if (r.bad < 0 && r.p < s.length()) {
            r.bad = r.p;
        }
        return r.bad;
    }

    int rule() {
        String s = takeText();
        int bad = badSignOf(s);
        if (bad >= 0) {
            return -1 - bad;
        }
        rule = s;
        return 0;
    }

    // ---- who sees what

    private int lightOf(World w) {
        return light.charAt(w.hour % light.length()) - '0';
    }

    private int reach(World w, int i, int brim, String by) {
        Person p = w.people.get(i);
        int here = 0;
        for (Person q : w.people) {
            here += q.row == p.row && q.col == p.col ? 1 : 0;
        }
        Map<Character, Integer> given =
            letters(brim, lightOf(w), p.knows.size(), p.facing, p.row, p.col, w.hour % 7, here);
        int x = new Reader(by.isEmpty() ? "l-b" : by, given).expression(0);
        return x < 0 ? 0 : x > 9 ? 9 : x;
    }

    private int reach(World w, int i) {
        return reach(w, i, w.people.get(i).brim, rule);
    }

    private static int way(int fromRow, int fromCol, int row, int col) {
        int up = fromRow - row;
        int right = col - fromCol;
        int rowsBetween = Math.abs(up);
        int colsBetween = Math.abs(right);
        if (rowsBetween > 2 * colsBetween) {
            return up > 0 ? 0 : 4;
        }
        if (colsBetween > 2 * rowsBetween) {
            return right > 0 ? 2 : 6;
        }
        if (up > 0 && right > 0) {
            return 1;
        }
        if (up < 0 && right > 0) {
            return 3;
        }
        return up < 0 ? 5 : 7;
    }

    private static int off(int a, int b) {
        int n = 0;
        while ((a + n) % 8 != b && (b + n) % 8 != a) {
            n++;
        }
        return n;
    }

    private boolean seesFrom(int fromRow, int fromCol, int facing, int brim, int reach, int field) {
        int row = field / cols;
        int col = field % cols;
        if (row == fromRow && col == fromCol) {
            return true;
        }
        if (Math.abs(row - fromRow) > reach || Math.abs(col - fromCol) > reach) {
            return false;
        }
        if (off(way(fromRow, fromCol, row, col), facing) > 4 - brim) {
            return false;
        }
        int r = fromRow;
        int c = fromCol;
        while (true) {
            r += Integer.compare(row, r);
            c += Integer.compare(col, c);
            if (r == row && c == col) {
                return true;
            }
            if (rock[r][c]) {
                return false;
            }
        }
    }

    private boolean sees(World w, int i, int field) {
        Person p = w.people.get(i);
        return seesFrom(p.row, p.col, p.facing, p.brim, reach(w, i), field);
    }

    private boolean seesFacing(World w, int i, int facing, int field) {
        Person p = w.people.get(i);
        return seesFrom(p.row, p.col, facing, p.brim, reach(w, i), field);
    }

    private boolean seesUnder(World w, int i, int brim, int field) {
        Person p = w.people.get(i);
        return seesFrom(p.row, p.col, p.facing, brim, reach(w, i, brim, rule), field);
    }

    private int fieldOf(World w, int i) {
        return w.people.get(i).row * cols + w.people.get(i).col;
    }

    private boolean somebodySees(World w, int field) {
        for (int i = 0; i < w.people.size(); i++) {
            if (sees(w, i, field)) {
                return true;
            }
        }
        return false;
    }

    private int seenCount(World w) {
        int n = 0;
        for (int f = 0; f < rows * cols; f++) {
            n += somebodySees(w, f) ? 1 : 0;
        }
        return n;
    }

    private boolean meet(World w, int i, int j) {
        return sees(w, i, fieldOf(w, j)) && sees(w, j, fieldOf(w, i));
    }

    private boolean tell(World w, int i, int j) {
        Person p = w.people.get(i);
        Person q = w.people.get(j);
        return Math.abs(p.row - q.row) <= 1 && Math.abs(p.col - q.col) <= 1 && meet(w, i, j);
    }

    private void hour(World w) {
        List<TreeSet<Integer>> then = new ArrayList<>();
        for (int i = 0; i < w.people.size(); i++) {
            TreeSet<Integer> k = new TreeSet<>(w.people.get(i).knows);
            for (int t = 0; t < w.things.size(); t++) {
                if (sees(w, i, w.things.get(t))) {
                    k.add(t);
                }
            }
            for (int j = 0; j < w.people.size(); j++) {
                if (j != i && tell(w, i, j)) {
                    k.addAll(w.people.get(j).knows);
                }
            }
            then.add(k);
        }
        for (int i = 0; i < w.people.size(); i++) {
            w.people.get(i).knows = then.get(i);
        }
        w.hour++;
    }

    private static int known(World w) {
        int n = 0;
        for (Person p : w.people) {
            n += p.knows.size();
        }
        return n;
    }

    private static long bits(Iterable<Integer> set) {
        long b = 0;
        for (int x : set) {
            b |= 1L << x;
        }
        return b;
    }

    private boolean isPerson(int i) {
        return i >= 0 && i < world.people.size();
    }

    private boolean isThing(int t) {
        return t >= 0 && t < world.things.size();
    }

    private boolean isField(int f) {
        return f >= 0 && f < rows * cols;
    }

    private boolean isRock(int f) {
        return rock[f / cols][f % cols];
    }

    private void tellRow(long... numbers) {
        told.clear();
        for (long x : numbers) {
            told.add(x);
        }
    }

    private TreeSet<Integer> seersOf(World w, int field) {
        TreeSet<Integer> s = new TreeSet<>();
        for (int i = 0; i < w.people.size(); i++) {
            if (sees(w, i, field)) {
                s.add(i);
            }
        }
        return s;
    }

    private TreeSet<Integer> viewOf(World w, int i) {
        TreeSet<Integer> s = new TreeSet<>();
        for (int f = 0; f < rows * cols; f++) {
            if (sees(w, i, f)) {
                s.add(f);
            }
        }
        return s;
    }

    private TreeSet<Integer> thingsOn(World w, TreeSet<Integer> fields) {
        TreeSet<Integer> s = new TreeSet<>();
        for (int t = 0; t < w.things.size(); t++) {
            if (fields.contains(w.things.get(t))) {
                s.add(t);
            }
        }
        return s;
    }

    private TreeSet<Integer> knowersOf(World w, int thing) {
        TreeSet<Integer> s = new TreeSet<>();
        for (int i = 0; i < w.people.size(); i++) {
            if (w.people.get(i).knows.contains(thing)) {
                s.add(i);
            }
        }
        return s;
    }

    int person(int i, int what) {
        if (!isPerson(i) || what < 0 || what > 5) {
            throw new NoSuchElementException();
        }
        Person p = world.people.get(i);
        long[] all = {
            p.row * cols + p.col, p.facing, p.brim, bits(p.knows), reach(world, i),
            bits(thingsOn(world, viewOf(world, i)))
        };
        return (int) all[what];
    }

    int thing(int t, int what) {
        if (!isThing(t) || what < 0 || what > 2) {
            throw new NoSuchElementException();
        }
        long[] all = {
            world.things.get(t), bits(knowersOf(world, t)), bits(seersOf(world, world.things.get(t)))
        };
        return (int) all[what];
    }

    int sheet(int kind, int n, int f, int step) {
        if (kind < 0 || kind > 3 || n > 8) {
            return NONE;
        }
        if (kind < 3 && n < 0) {
            return -2;
        }
        int sum = 0;
        for (int i = 0; i < world.people.size(); i++) {
            int x = 0;
            if (kind < 3 && i < n) {
                int e = f;
                for (int j = 0; j < i; j++) {
                    e += step;
                }
                x = kind == 0 ? (byte) e : kind == 1 ? (short) e : e;
            }
            int brim = x < 0 ? 0 : x > 4 ? 4 : x;
            world.people.get(i).brim = brim;
            sum += brim;
        }
        return kind == 3 ? -3 : sum;
    }

    // ---- hours, turns, steps

    private void remember(World before) {
        undos.add(before);
        if (undos.size() > 15) {
            undos.remove(0);
        }
    }

    private int kept(World before, int answer) {
        if (answer >= 0) {
            remember(before);
        }
        return answer;
    }

    private int doHours(int n) {
        if (n < 0 || n > 60) {
            return NONE;
        }
        for (int h = 0; h < n; h++) {
            hour(world);
        }
        return known(world);
    }

    private int doFaces(int i, int v) {
        if (!isPerson(i) || v < 0 || v > 7) {
            return NONE;
        }
        int n = off(world.people.get(i).facing, v);
        world.people.get(i).facing = v;
        return n;
    }

    private static int[] moved(int row, int col, int way) {
        String up = "701";
        String down = "345";
        String right = "123";
        String left = "567";
        char c = (char) ('0' + way);
        int r = up.indexOf(c) >= 0 ? row - 1 : down.indexOf(c) >= 0 ? row + 1 : row;
        int k = right.indexOf(c) >= 0 ? col + 1 : left.indexOf(c) >= 0 ? col - 1 : col;
        return new int[] {r, k};
    }

    private boolean canStand(int row, int col) {
        return row >= 0 && row < rows && col >= 0 && col < cols && !rock[row][col];
    }

    private int step(World w, int i, int way) {
        Person p = w.people.get(i);
        int[] to = moved(p.row, p.col, way);
        if (!canStand(to[0], to[1])) {
            return -2;
        }
        p.row = to[0];
        p.col = to[1];
        return p.row * cols + p.col;
    }

    private int doSteps(int i, int way) {
        return !isPerson(i) || way < 0 || way > 7 ? NONE : step(world, i, way);
    }

    private int doTrims(int i, int v) {
        if (!isPerson(i) || v < 0 || v > 4) {
            return NONE;
        }
        int was = world.people.get(i).brim;
        world.people.get(i).brim = v;
        return was;
    }

    private int doPuts(int t, int field) {
        if (!isThing(t) || !isField(field)) {
            return NONE;
        }
        if (world.things.get(t) == field) {
            return -2;
        }
        return world.things.set(t, field);
    }

    int hours(int n) {
        World before = world.copy();
        int x = kept(before, doHours(n));
        if (x >= 0) {
            TreeSet<Integer> any = new TreeSet<>();
            for (Person p : world.people) {
                any.addAll(p.knows);
            }
            tellRow(x - known(before), bits(any));
        }
        return x;
    }

    int faces(int i, int v) {
        return kept(world.copy(), doFaces(i, v));
    }

    int steps(int i, int way) {
        return kept(world.copy(), doSteps(i, way));
    }

    int trims(int i, int v) {
        return kept(world.copy(), doTrims(i, v));
    }

    int puts(int t, int field) {
        return kept(world.copy(), doPuts(t, field));
    }

    int day() {
        String s = takeText();
        List<String> acts = new ArrayList<>();
        int p = 0;
        while (p < s.length()) {
            int need = "n".indexOf(s.charAt(p)) >= 0 ? 1 : "fgb".indexOf(s.charAt(p)) >= 0 ? 2
                : s.charAt(p) == 'p' ? 3 : 0;
            if (need == 0 || p >= 60) {
                return -1 - p;
            }
            for (int q = p + 1; q <= p + need; q++) {
                if (q >= 60 || q >= s.length() || !digit(s.charAt(q))) {
                    return -1 - q;
                }
            }
            acts.add(s.substring(p, p + need + 1));
            p += need + 1;
        }
        World before = world.copy();
        int done = 0;
        for (String act : acts) {
            int a = act.charAt(1) - '0';
            int b = act.length() > 2 ? act.charAt(2) - '0' : 0;
            int c = act.length() > 3 ? act.charAt(3) - '0' : 0;
            int x = NONE;
            switch (act.charAt(0)) {
                case 'n': x = doHours(a); break;
                case 'f': x = doFaces(a, b); break;
                case 'g': x = doSteps(a, b); break;
                case 'b': x = doTrims(a, b); break;
                default: x = b >= rows || c >= cols ? NONE : doPuts(a, b * cols + c);
            }
            if (x < 0) {
                break;
            }
            done++;
        }
        if (done > 0) {
            remember(before);
        }
        tellRow(done < acts.size() ? 1 : 0, world.hour);
        return done;
    }

    int undo() {
        if (undos.isEmpty()) {
            return NONE;
        }
        world = undos.remove(undos.size() - 1);
        return undos.size();
    }

    // ---- questions

    long sees(int i) {
        if (!isPerson(i)) {
            return NONE;
        }
        TreeSet<Integer> view = viewOf(world, i);
        TreeSet<Integer> on = new TreeSet<>();
        for (int j = 0; j < world.people.size(); j++) {
            if (j != i && view.contains(fieldOf(world, j))) {
                on.add(j);
            }
        }
        tellRow(view.size(), bits(on));
        return bits(view);
    }

    int seers(int field) {
        if (!isField(field)) {
            return NONE;
        }
        TreeSet<Integer> s = seersOf(world, field);
        tellRow(s.size(), bits(thingsOn(world, new TreeSet<>(List.of(field)))));
        return (int) bits(s);
    }

    long hidden() {
        TreeSet<Integer> s = new TreeSet<>();
        for (int f = 0; f < rows * cols; f++) {
            if (!isRock(f) && !somebodySees(world, f)) {
                s.add(f);
            }
        }
        tellRow(s.size(), bits(thingsOn(world, s)));
        return bits(s);
    }

    int pairs() {
        int met = 0;
        int telling = 0;
        int[] first = null;
        for (int i = 0; i < world.people.size(); i++) {
            for (int j = i + 1; j < world.people.size(); j++) {
                if (meet(world, i, j)) {
                    met++;
                    first = first == null ? new int[] {i, j} : first;
                    telling += tell(world, i, j) ? 1 : 0;
                }
            }
        }
        tellRow(telling);
        if (first != null) {
            tellRow(telling, first[0], first[1]);
        }
        return met;
    }

    int behind(int i) {
        if (!isPerson(i)) {
            return NONE;
        }
        TreeSet<Integer> s = new TreeSet<>();
        for (int j = 0; j < world.people.size(); j++) {
            if (sees(world, j, fieldOf(world, i)) && !sees(world, i, fieldOf(world, j))) {
                s.add(j);
            }
        }
        tellRow(s.size());
        return (int) bits(s);
    }

    int widest() {
        if (world.people.isEmpty()) {
            return -2;
        }
        List<Integer> much = new ArrayList<>();
        for (int i = 0; i < world.people.size(); i++) {
            much.add(viewOf(world, i).size());
        }
        int most = Collections.max(much);
        int fewest = Collections.min(much);
        tellRow(most, much.indexOf(fewest), fewest);
        return much.indexOf(most);
    }

    int watch() {
        int people = world.people.size();
        List<TreeSet<Integer>> views = new ArrayList<>();
        for (int i = 0; i < people; i++) {
            views.add(viewOf(world, i));
        }
        int need = seenCount(world);
        for (int n = 0; n <= people; n++) {
            for (int who = 0; who < 1 << people; who++) {
                TreeSet<Integer> together = new TreeSet<>();
                for (int i = 0; i < people; i++) {
                    if ((who >> i & 1) == 1) {
                        together.addAll(views.get(i));
                    }
                }
                if (Integer.bitCount(who) == n && together.size() == need) {
                    tellRow(who);
                    return n;
                }
            }
        }
        throw new IllegalStateException();
    }

    int learns(int i, int t) {
        if (!isPerson(i) || !isThing(t)) {
            return NONE;
        }
        World w = world.copy();
        for (int h = 0; h <= 99; h++) {
            if (w.people.get(i).knows.contains(t)) {
                tellRow(knowersOf(w, t).size());
                return h;
            }
            hour(w);
        }
        return -2;
    }

    private static List<Integer> lacking(World w) {
        List<Integer> s = new ArrayList<>();
        for (int i = 0; i < w.people.size(); i++) {
            if (w.people.get(i).knows.size() < w.things.size()) {
                s.add(i);
            }
        }
        return s;
    }

    int all() {
        World w = world.copy();
        List<Integer> ahead = List.of();
        for (int h = 0; h <= 99; h++) {
            List<Integer> lack = lacking(w);
            if (lack.isEmpty()) {
                tellRow(h == 0 ? NONE : ahead.get(0));
                return h;
            }
            ahead = lack;
            hour(w);
        }
        return -2;
    }

    int ahead(int n) {
        if (n < 0 || n > 99) {
            return NONE;
        }
        World w = world.copy();
        for (int h = 0; h < n; h++) {
            hour(w);
        }
        told.clear();
        for (Person p : w.people) {
            told.add(bits(p.knows));
        }
        return known(w);
    }

    int gossip(int i) {
        if (!isPerson(i)) {
            return NONE;
        }
        TreeSet<Integer> who = new TreeSet<>(List.of(i));
        int last = 0;
        for (int round = 1; round <= 20; round++) {
            TreeSet<Integer> next = new TreeSet<>(who);
            for (int a : who) {
                for (int b = 0; b < world.people.size(); b++) {
                    if (a != b && tell(world, a, b)) {
                        next.add(b);
                    }
                }
            }
            if (next.size() > who.size()) {
                last = round;
            }
            who = next;
        }
        tellRow(last);
        return (int) bits(who);
    }

    int eighths(int i, int field) {
        if (!isPerson(i) || !isField(field)) {
            return NONE;
        }
        for (int n = 0; n <= 4; n++) {
            for (int v = 0; v < 8; v++) {
                if (off(world.people.get(i).facing, v) == n && seesFacing(world, i, v, field)) {
                    tellRow(v);
                    return n;
                }
            }
        }
        return -2;
    }

    /** All rows of FACINGS are tried: only for few people. */
    int turned() {
        int people = world.people.size();
        int things = world.things.size();
        int[][] seen = new int[people][8];
        for (int i = 0; i < people; i++) {
            for (int v = 0; v < 8; v++) {
                for (int t = 0; t < things; t++) {
                    seen[i][v] |= seesFacing(world, i, v, world.things.get(t)) ? 1 << t : 0;
                }
            }
        }
        int best = 99;
        long[] row = null;
        for (long code = 0; code < 1L << 3 * people; code++) {
            int turnedNow = 0;
            int together = 0;
            long[] facing = new long[people];
            for (int i = 0; i < people; i++) {
                int v = (int) (code >> 3 * (people - 1 - i) & 7);
                facing[i] = v;
                turnedNow += v == world.people.get(i).facing ? 0 : 1;
                together |= seen[i][v];
            }
            if (together == (1 << things) - 1 && turnedNow < best) {
                best = turnedNow;
                row = facing;
            }
        }
        if (row == null) {
            return -2;
        }
        tellRow(row);
        return best;
    }

    int best(int i) {
        if (!isPerson(i)) {
            return NONE;
        }
        int facing = 0;
        TreeSet<Integer> most = null;
        for (int v = 0; v < 8; v++) {
            TreeSet<Integer> s = new TreeSet<>();
            for (int t = 0; t < world.things.size(); t++) {
                if (seesFacing(world, i, v, world.things.get(t))) {
                    s.add(t);
                }
            }
            if (most == null || s.size() > most.size()) {
                most = s;
                facing = v;
            }
        }
        tellRow(bits(most));
        return facing;
    }

    int bears(int i, int field) {
        if (!isPerson(i) || !isField(field)) {
            return NONE;
        }
        int best = -2;
        for (int b = 0; b <= 4; b++) {
            if (seesUnder(world, i, b, field)) {
                best = b;
            }
        }
        if (best >= 0) {
            tellRow(reach(world, i, best, rule));
        }
        return best;
    }

    /** All ways of a length are made, in the order of their rows; the first that ends at to is told. */
    private List<Integer> route(int from, int to, boolean unseen) {
        if (isRock(from) || isRock(to)) {
            return null;
        }
        Map<Integer, List<Integer>> least = new HashMap<>();
        least.put(from, List.of(from));
        for (int length = 0; length <= rows * cols; length++) {
            if (least.containsKey(to)) {
                return least.get(to);
            }
            Map<Integer, List<Integer>> next = new HashMap<>();
            for (List<Integer> path : least.values()) {
                int at = path.get(path.size() - 1);
                if (unseen && at != from && somebodySees(world, at)) {
                    continue;
                }
                for (int way = 0; way < 8; way++) {
                    int[] m = moved(at / cols, at % cols, way);
                    if (!canStand(m[0], m[1])) {
                        continue;
                    }
                    int f = m[0] * cols + m[1];
                    List<Integer> longer = new ArrayList<>(path);
                    longer.add(f);
                    if (!next.containsKey(f) || compare(longer, next.get(f)) < 0) {
                        next.put(f, longer);
                    }
                }
            }
            least = next;
        }
        return null;
    }

    private static int compare(List<Integer> a, List<Integer> b) {
        return Arrays.compare(a.stream().mapToInt(x -> x).toArray(), b.stream().mapToInt(x -> x).toArray());
    }

    int back(int from, int to) {
        if (!isField(from) || !isField(to)) {
            return NONE;
        }
        List<Integer> path = route(from, to, true);
        if (path == null) {
            return -2;
        }
        told.clear();
        for (int f : path) {
            told.add((long) f);
        }
        return path.size() - 1;
    }

    int open(int from, int to) {
        if (!isField(from) || !isField(to)) {
            return NONE;
        }
        List<Integer> path = route(from, to, false);
        if (path == null) {
            return -2;
        }
        int n = 0;
        for (int f : path) {
            n += somebodySees(world, f) ? 1 : 0;
        }
        tellRow(n);
        return path.size() - 1;
    }

    int heard(int i, int is) {
        if (!isPerson(i) || is < 0 || is > 1 || possible.size() == 10) {
            return NONE;
        }
        TreeSet<Integer> s = new TreeSet<>();
        for (int f = 0; f < rows * cols; f++) {
            if (sees(world, i, f) == (is == 1)) {
                s.add(f);
            }
        }
        possible.add(s);
        return possible.size();
    }

    int forget() {
        int n = possible.size();
        possible.clear();
        return n;
    }

    private TreeSet<Integer> maybe() {
        TreeSet<Integer> s = new TreeSet<>();
        for (int f = 0; f < rows * cols; f++) {
            boolean ok = !isRock(f);
            for (TreeSet<Integer> p : possible) {
                ok &= p.contains(f);
            }
            if (ok) {
                s.add(f);
            }
        }
        return s;
    }

    long lost() {
        TreeSet<Integer> s = maybe();
        tellRow(s.size());
        return bits(s);
    }

    int asks() {
        TreeSet<Integer> s = maybe();
        if (s.isEmpty() || world.people.isEmpty()) {
            return -2;
        }
        List<Integer> left = new ArrayList<>();
        for (int i = 0; i < world.people.size(); i++) {
            TreeSet<Integer> yes = new TreeSet<>(s);
            yes.retainAll(viewOf(world, i));
            left.add(Math.max(yes.size(), s.size() - yes.size()));
        }
        int fewest = Collections.min(left);
        tellRow(fewest);
        return left.indexOf(fewest);
    }

    /** Every set of bonnets that the storm may take is tried. */
    int storm(int field, int k, int p) {
        if (!isField(field) || k < 0 || k > 8 || p < 0 || p > 10) {
            return NONE;
        }
        int people = world.people.size();
        BigInteger sum = BigInteger.ZERO;
        for (int taken = 0; taken < 1 << people; taken++) {
            int n = 0;
            BigInteger weight = BigInteger.ONE;
            for (int i = 0; i < people; i++) {
                boolean bare = (taken >> i & 1) == 1;
                weight = weight.multiply(BigInteger.valueOf(bare ? p : 10 - p));
                n += bare ? seesUnder(world, i, 0, field) ? 1 : 0 : sees(world, i, field) ? 1 : 0;
            }
            sum = n >= k ? sum.add(weight) : sum;
        }
        BigInteger whole = BigInteger.TEN.pow(people);
        BigInteger g = sum.gcd(whole);
        tellRow(sum.divide(g).longValueExact(), whole.divide(g).longValueExact());
        return 0;
    }

    private final Map<Integer, Boolean> winning = new HashMap<>();

    private boolean wins(int n, int k, int just) {
        if (n == 0) {
            return false;
        }
        int key = (n * 16 + k) * 16 + just;
        Boolean known = winning.get(key);
        if (known == null) {
            known = false;
            for (int t = 1; t <= k && t <= n; t++) {
                if (t != just && !wins(n - t, k, t)) {
                    known = true;
                }
            }
            winning.put(key, known);
        }
        return known;
    }

    int cock(int n, int k) {
        if (n < 0 || n > 60 || k < 2 || k > 9) {
            return NONE;
        }
        for (int t = 1; t <= k && t <= n; t++) {
            if (!wins(n - t, k, t)) {
                return t;
            }
        }
        return 0;
    }

    int law() {
        String s = takeText();
        int bad = badSignOf(s);
        if (bad >= 0) {
            return -10000 - bad;
        }
        int byRule = seenCount(world);
        String was = rule;
        rule = s;
        int byIt = seenCount(world);
        rule = was;
        tellRow(byIt, byRule);
        return byIt - byRule;
    }

    private static int gain(int v, int own, int others) {
        int pays = 0;
        for (int e = 1; e <= own; e++) {
            pays += e > 4 ? 2 : 1;
        }
        return v * Math.min(own, others) / 4 - pays;
    }

    int rests(int v) {
        if (v < 0 || v > 20) {
            return NONE;
        }
        List<int[]> found = new ArrayList<>();
        for (int x = 0; x < 10; x++) {
            for (int y = 0; y < 10; y++) {
                boolean rest = true;
                for (int z = 0; z < 10; z++) {
                    rest &= gain(v, z, y) <= gain(v, x, y) && gain(v, z, x) <= gain(v, y, x);
                }
                if (rest) {
                    found.add(new int[] {x, y});
                }
            }
        }
        told.clear();
        if (!found.isEmpty()) {
            tellRow(found.get(0)[0], found.get(0)[1]);
        }
        return found.size();
    }

    private int r;

    private int draw(int n) {
        r = r * 1103515245 + 12345;
        return (int) ((r & 0xffffffffL) / 65536 % n);
    }

    int years(int seed, int n) {
        if (n < 1 || n > 60) {
            return NONE;
        }
        World w = world.copy();
        r = seed;
        for (int i = 0; i < n; i++) {
            int lot = draw(4);
            if (lot < 2) {
                hour(w);
            } else if (!w.people.isEmpty()) {
                int who = draw(w.people.size());
                int v = draw(8);
                if (lot == 2) {
                    w.people.get(who).facing = v;
                } else {
                    step(w, who, v);
                }
            }
        }
        int brims = 0;
        for (Person p : w.people) {
            brims += p.brim;
        }
        tellRow(seenCount(w), brims);
        return known(w);
    }

    boolean keep(int i) {
        if (i < 0 || i > 2) {
            return false;
        }
        kept[i] = world.copy();
        return true;
    }

    boolean again(int i) {
        if (i < 0 || i > 2 || kept[i] == null) {
            return false;
        }
        world = kept[i].copy();
        undos.clear();
        return true;
    }

    int count(int what) {
        int rocks = 0;
        for (int f = 0; f < rows * cols; f++) {
            rocks += isRock(f) ? 1 : 0;
        }
        int[] all = {
            rows, cols, world.people.size(), world.things.size(), world.hour, lightOf(world), known(world),
            rocks, seenCount(world), possible.size(), undos.size(), told.size(), text.length()
        };
        return what < 0 || what >= all.length ? -100 : all[what];
    }

    long row(int i) {
        if (i < 0 || i >= told.size()) {
            throw new NoSuchElementException();
        }
        return told.get(i);
    }
}
